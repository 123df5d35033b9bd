section MDV
variable {M : mM} {P : Option Value → mM → Prop} {s : cs}
theorem th_tb (l : lt) (i j k : Nat) : (andn (rdSet l (shBy l (2 ^ i ||| 2 ^ j))) (2 ^ i ||| 2 ^ j)).testBit k = (decide (k < l.1) && (decide (k ≠ i) && decide (k ≠ j) && rdN l (shBy l (2 ^ i ||| 2 ^ j)) k)) := by
  rw [andn_tb, Nat.testBit_or, Nat.testBit_two_pow, Nat.testBit_two_pow]
  unfold rdSet
  rw [bN_tb]
  by_cases h1 : i = k
  · subst h1; simp
  · by_cases h2 : j = k
    · subst h2; simp
    · have h3 : k ≠ i := fun z => h1 z.symm
      have h4 : k ≠ j := fun z => h2 z.symm
      simp [h1, h2, h3, h4]
theorem th_lf (l : lt) (i j : Nat) : thN l i j = lf (fun k => (andn (rdSet l (shBy l (2 ^ i ||| 2 ^ j))) (2 ^ i ||| 2 ^ j)).testBit k) l.1 0 := by
  unfold thN
  exact lf_cong (fun k h1 h2 => by rw [th_tb, decide_eq_true (show k < l.1 by omega), Bool.true_and])
theorem th_0 {l : lt} {i j : Nat} (h : thN l i j = none) : andn (rdSet l (shBy l (2 ^ i ||| 2 ^ j))) (2 ^ i ||| 2 ^ j) = 0 := by
  rw [th_lf] at h
  apply Nat.eq_of_testBit_eq
  intro k
  rw [Nat.zero_testBit]
  rcases Nat.lt_or_ge k l.1 with z | z
  · exact lf_none h k (by omega) (by omega)
  · rw [th_tb, decide_eq_false (by omega), Bool.false_and]
theorem th_1 {l : lt} {i j x : Nat} (h : thN l i j = some x) : andn (rdSet l (shBy l (2 ^ i ||| 2 ^ j))) (2 ^ i ||| 2 ^ j) ≠ 0 := by
  rw [th_lf] at h
  have := (lf_some h).2.2.1
  intro z
  rw [z] at this
  rw [Nat.zero_testBit] at this
  cases this
theorem R_crossed {x : Int32} (h : kM M s) (ho : cOk s) (hp : ∀ M1, ag M M1 72 88 → kM M1 (s) → P (some (.int (a_crossed s x))) M1) : Ev 88 7 mX8_crossed none 0 [.ref 72, .int x, .null, .null, .null, .null, .null, .null] [] M P := by
  refine m_thr dX8_crossed_0 dX8_crossed_1 dX8_crossed_2 fwX8_60 h (fun M0 a0 h => ?_)
  replace hp : ∀ M1, ag M0 M1 72 88 → kM M1 (s) → P (some (.int (a_crossed s x))) M1 := fun M1 ha hk => hp M1 (ag_tr (ag_wd a0 : ag M M0 72 88) ha) hk
  clear a0
  obtain ⟨t, l, p, a, sl, v, sd⟩ := s
  obtain ⟨⟨e, x0⟩, hR⟩ := id h
  obtain ⟨h1, h2, h3, h11, h4, h5, h6, h7⟩ : arr M0 73 40 t.1 t.2 ∧ kML M0 l ∧ kG M0 79 p ∧ (∃ q, kG M0 80 q) ∧ kBk M0 a ∧ kKp M0 sl ∧ kMV M0 v ∧ kX M0 := id hR
  obtain ⟨o1, o2, o3, o4, o5, o6, o7⟩ : txOk t ∧ ltOk l ∧ pgOk p ∧ (∀ q ∈ a, pgOk q) ∧ a.length ≤ 14 ∧ (∀ i q, sl i = some q → pgOk q) ∧ ovOk v := ho
  have hO : kO M0 e t.1 l.1 a.length v.1 sd := x0
  have hl6 := o2.1
  have hv6 := o7.1
  unfold kO at x0
  have hML := h2
  unfold a_crossed at hp
  cases hx : inR x 2 with
  | true =>
    rw [if_pos hx] at hp
    obtain ⟨w, hw, rfl⟩ := inR_of hx (by decide)
    rw [n_cl (by omega)] at hp
    have sk : ∀ (i j : Nat) (lw l2 l3 : Value) (Q : Nat), i < 6 → j < 6 → andn (rdSet l (shBy l (2 ^ i ||| 2 ^ j))) (2 ^ i ||| 2 ^ j) = Q → Q < 4096 → ∀ (m k x : Nat), k + m = l.1 → lf (fun k => Q.testBit k) m k = some x → Ev 88 7 mX8_crossed none 105 [.ref 72, lw, l2, l3, .int (nI i), .int (nI j), .int (nI Q), .int (nI x)] [] M0 P → Ev 88 7 mX8_crossed none 89 [.ref 72, lw, l2, l3, .int (nI i), .int (nI j), .int (nI Q), .int (nI k)] [] M0 P := by
      intro i j lw l2 l3 Q hi hj hQ hQ2 m
      induction m with
      | zero => intro k x _ hk; cases hk
      | succ m ih =>
        intro k x hk hq kk
        cases hb : Q.testBit k with
        | true =>
          rw [lf_t hb] at hq
          cases hq
          refine ev_iload (i := 6) dX8_crossed_89 rfl ?_
          refine ev_iload (i := 7) dX8_crossed_91 rfl ?_
          refine ev_S2 (μ1 := mX8_has) dX8_crossed_93 sX8_99 okX8_has (Nat.le_of_ble_eq_true rfl) (Nat.le_of_ble_eq_true rfl) ?_
          refine c_mHas (by omega) (by omega) ?_
          refine ev_if_neB 105 dX8_crossed_96 (by decide) (fun b96 => ?_) (fun b96 => by rw [hb] at b96; cases b96)
          exact kk
        | false =>
          rw [lf_f hb] at hq
          refine ev_iload (i := 6) dX8_crossed_89 rfl ?_
          refine ev_iload (i := 7) dX8_crossed_91 rfl ?_
          refine ev_S2 (μ1 := mX8_has) dX8_crossed_93 sX8_99 okX8_has (Nat.le_of_ble_eq_true rfl) (Nat.le_of_ble_eq_true rfl) ?_
          refine c_mHas (by omega) (by omega) ?_
          refine ev_if_neB 105 dX8_crossed_96 (by decide) (fun b96 => by rw [hb] at b96; cases b96) (fun b96 => ?_)
          refine ev_incN dX8_crossed_99 (by rfl) (by decide) rfl ?_
          refine ev_goto 89 dX8_crossed_102 (by decide) ?_
          exact ih (k + 1) x (by omega) hq kk
    have inner : ∀ (k j i : Nat) (st : Nat × Option Nat) (lx ly : Value), j + k = l.1 → i < l.1 → st.1 + k ≤ 100 → (st.1 = 0 ↔ st.2 = none) →
        (∀ (st1 : Nat × Option Nat) (lx ly lz : Value), st1 = crI l i k j st → st1.1 ≤ st.1 + k → (st1.1 = 0 ↔ st1.2 = none) → Ev 88 7 mX8_crossed none 26 [.ref 72, .int (nI w), .int (nI st1.1), .int (oI st1.2), .int (nI (i + 1)), lx, ly, lz] [] M0 P) →
        Ev 88 7 mX8_crossed none 41 [.ref 72, .int (nI w), .int (nI st.1), .int (oI st.2), .int (nI i), .int (nI j), lx, ly] [] M0 P := by
      intro k
      induction k with
      | zero =>
        intro j i st lx ly hj hi h1 h2 kk
        obtain rfl : j = l.1 := by omega
        refine ev_iload (i := 5) dX8_crossed_41 rfl ?_
        refine ev_aload_n (i := 0) dX8_crossed_43 rfl rfl ?_
        refine ev_getfield dX8_crossed_44 fX8_64 (by first | omega | decide) (by first | assumption | (simp (disch := omega) only [mu_s, mu_n]; first | assumption | rfl)) (by rfl) ?_
        refine ev_icmp_geN 137 dX8_crossed_47 (by decide) (by omega) (by omega) (fun b47 => ?_) (fun b47 => by exfalso; omega)
        refine ev_incN dX8_crossed_137 (by rfl) (by decide) rfl ?_
        refine ev_goto 26 dX8_crossed_140 (by decide) ?_
        exact kk st _ _ _ rfl (by omega) h2
      | succ k ih =>
        intro j i st lx ly hj hi hb h2 kk
        have hrd := rd_lt o2 (shBy l (2 ^ i ||| 2 ^ j))
        have hpi : 2 ^ i < 64 := Nat.lt_of_lt_of_le (Nat.pow_lt_pow_right (by decide) (show i < 6 by omega)) (by decide)
        have hpj : 2 ^ j < 64 := Nat.lt_of_lt_of_le (Nat.pow_lt_pow_right (by decide) (show j < 6 by omega)) (by decide)
        have hor : 2 ^ i ||| 2 ^ j < 2 ^ 6 := Nat.or_lt_two_pow hpi hpj
        have han := andn_le (rdSet l (shBy l (2 ^ i ||| 2 ^ j))) (2 ^ i ||| 2 ^ j)
        cases q : thN l i j with
        | none =>
          have e : crI l i (k + 1) j st = crI l i k (j + 1) st := by
            show crI l i k (j + 1) (match thN l i j with | none => st | some x => (st.1 + 1, some (st.2.getD (100 * i + 10 * j + x)))) = _
            rw [q]
          have q0 := th_0 q
          refine ev_iload (i := 5) dX8_crossed_41 rfl ?_
          refine ev_aload_n (i := 0) dX8_crossed_43 rfl rfl ?_
          refine ev_getfield dX8_crossed_44 fX8_64 (by first | omega | decide) (by first | assumption | (simp (disch := omega) only [mu_s, mu_n]; first | assumption | rfl)) (by rfl) ?_
          refine ev_icmp_geN 137 dX8_crossed_47 (by decide) (by omega) (by omega) (fun b47 => by exfalso; omega) (fun b47 => ?_)
          refine ev_aload_n (i := 0) dX8_crossed_50 rfl rfl ?_
          refine ev_aload_n (i := 0) dX8_crossed_51 rfl rfl ?_
          refine ev_iconst (v := nI 1) dX8_crossed_52 rfl ?_
          refine ev_iload (i := 4) dX8_crossed_53 rfl ?_
          refine ev_ishl1 dX8_crossed_55 (by omega) ?_
          refine ev_iconst (v := nI 1) dX8_crossed_56 rfl ?_
          refine ev_iload (i := 5) dX8_crossed_57 rfl ?_
          refine ev_ishl1 dX8_crossed_59 (by omega) ?_
          refine ev_iorN dX8_crossed_60 ?_
          refine ev_V1 (μ1 := mX8_showsBy) dX8_crossed_61 sX8_141 okX8_showsBy (by first | omega | decide) (by first | assumption | (simp (disch := omega) only [mu_s, mu_n]; first | assumption | rfl)) (Nat.le_of_ble_eq_true rfl) (Nat.le_of_ble_eq_true rfl) ?_
          refine c_mShowsBy hO hML o2 (by omega) ?_
          refine ev_V1 (μ1 := mX8_readBy) dX8_crossed_64 sX8_106 okX8_readBy (by first | omega | decide) (by first | assumption | (simp (disch := omega) only [mu_s, mu_n]; first | assumption | rfl)) (Nat.le_of_ble_eq_true rfl) (Nat.le_of_ble_eq_true rfl) ?_
          refine c_mReadBy hO hML o2 ?_
          refine ev_iconst (v := nI 1) dX8_crossed_67 rfl ?_
          refine ev_iload (i := 4) dX8_crossed_68 rfl ?_
          refine ev_ishl1 dX8_crossed_70 (by omega) ?_
          refine ev_iconst (v := nI 1) dX8_crossed_71 rfl ?_
          refine ev_iload (i := 5) dX8_crossed_72 rfl ?_
          refine ev_ishl1 dX8_crossed_74 (by omega) ?_
          refine ev_iorN dX8_crossed_75 ?_
          refine ev_iconst (v := (-1)) dX8_crossed_76 rfl ?_
          refine ev_ixor dX8_crossed_77 ?_
          refine ev_iand dX8_crossed_78 ?_
          refine ev_top (i_op ((andn_nI _ _).trans (congrArg nI q0))) ?_
          refine ev_istore (i := 6) dX8_crossed_79 (by decide) rfl ?_
          refine ev_iload (i := 6) dX8_crossed_81 rfl ?_
          refine ev_if_eqN 131 dX8_crossed_83 (by decide) (by decide) (fun b83 => ?_) (fun b83 => absurd rfl b83)
          refine ev_incN dX8_crossed_131 (by rfl) (by decide) rfl ?_
          refine ev_goto 41 dX8_crossed_134 (by decide) ?_
          exact ih _ _ st _ _ (by omega) hi (by omega) h2 (fun st1 lx ly lz e1 e2 e3 => kk st1 lx ly lz (e1.trans e.symm) (by omega) e3)
        | some x =>
          have hx6 : x < l.1 := by
            unfold thN at q
            have := (lf_some q).2.1
            omega
          have e : crI l i (k + 1) j st = crI l i k (j + 1) (st.1 + 1, some (st.2.getD (100 * i + 10 * j + x))) := by
            show crI l i k (j + 1) (match thN l i j with | none => st | some x => (st.1 + 1, some (st.2.getD (100 * i + 10 * j + x)))) = _
            rw [q]
          have q0 := th_1 q
          have q1 := q
          rw [th_lf] at q1
          refine ev_iload (i := 5) dX8_crossed_41 rfl ?_
          refine ev_aload_n (i := 0) dX8_crossed_43 rfl rfl ?_
          refine ev_getfield dX8_crossed_44 fX8_64 (by first | omega | decide) (by first | assumption | (simp (disch := omega) only [mu_s, mu_n]; first | assumption | rfl)) (by rfl) ?_
          refine ev_icmp_geN 137 dX8_crossed_47 (by decide) (by omega) (by omega) (fun b47 => by exfalso; omega) (fun b47 => ?_)
          refine ev_aload_n (i := 0) dX8_crossed_50 rfl rfl ?_
          refine ev_aload_n (i := 0) dX8_crossed_51 rfl rfl ?_
          refine ev_iconst (v := nI 1) dX8_crossed_52 rfl ?_
          refine ev_iload (i := 4) dX8_crossed_53 rfl ?_
          refine ev_ishl1 dX8_crossed_55 (by omega) ?_
          refine ev_iconst (v := nI 1) dX8_crossed_56 rfl ?_
          refine ev_iload (i := 5) dX8_crossed_57 rfl ?_
          refine ev_ishl1 dX8_crossed_59 (by omega) ?_
          refine ev_iorN dX8_crossed_60 ?_
          refine ev_V1 (μ1 := mX8_showsBy) dX8_crossed_61 sX8_141 okX8_showsBy (by first | omega | decide) (by first | assumption | (simp (disch := omega) only [mu_s, mu_n]; first | assumption | rfl)) (Nat.le_of_ble_eq_true rfl) (Nat.le_of_ble_eq_true rfl) ?_
          refine c_mShowsBy hO hML o2 (by omega) ?_
          refine ev_V1 (μ1 := mX8_readBy) dX8_crossed_64 sX8_106 okX8_readBy (by first | omega | decide) (by first | assumption | (simp (disch := omega) only [mu_s, mu_n]; first | assumption | rfl)) (Nat.le_of_ble_eq_true rfl) (Nat.le_of_ble_eq_true rfl) ?_
          refine c_mReadBy hO hML o2 ?_
          refine ev_iconst (v := nI 1) dX8_crossed_67 rfl ?_
          refine ev_iload (i := 4) dX8_crossed_68 rfl ?_
          refine ev_ishl1 dX8_crossed_70 (by omega) ?_
          refine ev_iconst (v := nI 1) dX8_crossed_71 rfl ?_
          refine ev_iload (i := 5) dX8_crossed_72 rfl ?_
          refine ev_ishl1 dX8_crossed_74 (by omega) ?_
          refine ev_iorN dX8_crossed_75 ?_
          refine ev_iconst (v := (-1)) dX8_crossed_76 rfl ?_
          refine ev_ixor dX8_crossed_77 ?_
          refine ev_iand dX8_crossed_78 ?_
          refine ev_top (i_op (andn_nI _ _)) ?_
          refine ev_istore (i := 6) dX8_crossed_79 (by decide) rfl ?_
          refine ev_iload (i := 6) dX8_crossed_81 rfl ?_
          refine ev_if_eqN 131 dX8_crossed_83 (by decide) (by omega) (fun b83 => absurd b83 q0) (fun b83 => ?_)
          refine ev_iconst (v := nI 0) dX8_crossed_86 rfl ?_
          refine ev_istore (i := 7) dX8_crossed_87 (by decide) rfl ?_
          refine sk i j _ _ _ _ (by omega) (by omega) rfl (by omega) l.1 0 x (by omega) q1 ?_
          have ih2 := ih (j + 1) i (st.1 + 1, some (st.2.getD (100 * i + 10 * j + x))) (.int (nI (andn (rdSet l (shBy l (2 ^ i ||| 2 ^ j))) (2 ^ i ||| 2 ^ j)))) (.int (nI x)) (by omega) hi (by show st.1 + 1 + k ≤ 100; omega) ⟨fun z => (by have z : st.1 + 1 = 0 := z; omega), fun z => (by cases z)⟩ (fun st1 lx ly lz e1 e2 e3 => kk st1 lx ly lz (e1.trans e.symm) (by have e2 : st1.1 ≤ st.1 + 1 + k := e2; omega) e3)
          by_cases hs0 : st.1 = 0
          · rw [h2.mp hs0] at ih2
            refine ev_iload_n (i := 2) dX8_crossed_105 rfl rfl ?_
            refine ev_if_neN 126 dX8_crossed_106 (by decide) (by omega) (fun b106 => by exfalso; omega) (fun b106 => ?_)
            refine ev_bipush (v := nI 100) dX8_crossed_109 rfl ?_
            refine ev_iload (i := 4) dX8_crossed_111 rfl ?_
            refine ev_imulN dX8_crossed_113 ?_
            refine ev_bipush (v := nI 10) dX8_crossed_114 rfl ?_
            refine ev_iload (i := 5) dX8_crossed_116 rfl ?_
            refine ev_imulN dX8_crossed_118 ?_
            refine ev_iaddN dX8_crossed_119 ?_
            refine ev_iload (i := 7) dX8_crossed_120 rfl ?_
            refine ev_iaddN dX8_crossed_122 ?_
            refine ev_goto 127 dX8_crossed_123 (by decide) ?_
            refine ev_istore_n (i := 3) dX8_crossed_127 rfl (by decide) rfl ?_
            refine ev_incN dX8_crossed_128 (by rfl) (by decide) rfl ?_
            refine ev_incN dX8_crossed_131 (by rfl) (by decide) rfl ?_
            refine ev_goto 41 dX8_crossed_134 (by decide) ?_
            exact ih2
          · cases hs2 : st.2 with
            | none => exact absurd (h2.mpr hs2) hs0
            | some y =>
              rw [hs2] at ih2
              refine ev_iload_n (i := 2) dX8_crossed_105 rfl rfl ?_
              refine ev_if_neN 126 dX8_crossed_106 (by decide) (by omega) (fun b106 => ?_) (fun b106 => by exfalso; omega)
              refine ev_iload_n (i := 3) dX8_crossed_126 rfl rfl ?_
              refine ev_istore_n (i := 3) dX8_crossed_127 rfl (by decide) rfl ?_
              refine ev_incN dX8_crossed_128 (by rfl) (by decide) rfl ?_
              refine ev_incN dX8_crossed_131 (by rfl) (by decide) rfl ?_
              refine ev_goto 41 dX8_crossed_134 (by decide) ?_
              exact ih2
    have outer : ∀ (k i : Nat) (st : Nat × Option Nat) (lx ly lz : Value), i + k = l.1 → st.1 + 6 * k ≤ 60 → (st.1 = 0 ↔ st.2 = none) → crO l l.1 0 (0, none) = crO l k i st →
        Ev 88 7 mX8_crossed none 26 [.ref 72, .int (nI w), .int (nI st.1), .int (oI st.2), .int (nI i), lx, ly, lz] [] M0 P := by
      intro k
      induction k with
      | zero =>
        intro i st lx ly lz hi hb h2 e
        obtain rfl : i = l.1 := by omega
        have e : crO l l.1 0 (0, none) = st := e
        rw [show crO (t, l, p, a, sl, v, sd).2.1 (t, l, p, a, sl, v, sd).2.1.1 0 (0, none) = st from e] at hp
        by_cases hw0 : w = 0
        · rw [if_pos hw0] at hp
          refine ev_iload (i := 4) dX8_crossed_26 rfl ?_
          refine ev_aload_n (i := 0) dX8_crossed_28 rfl rfl ?_
          refine ev_getfield dX8_crossed_29 fX8_64 (by first | omega | decide) (by first | assumption | (simp (disch := omega) only [mu_s, mu_n]; first | assumption | rfl)) (by rfl) ?_
          refine ev_icmp_geN 143 dX8_crossed_32 (by decide) (by omega) (by omega) (fun b32 => ?_) (fun b32 => by exfalso; omega)
          refine ev_iload_n (i := 1) dX8_crossed_143 rfl rfl ?_
          refine ev_if_neN 151 dX8_crossed_144 (by decide) (by omega) (fun b144 => by exfalso; omega) (fun b144 => ?_)
          refine ev_iload_n (i := 2) dX8_crossed_147 rfl rfl ?_
          refine ev_goto 152 dX8_crossed_148 (by decide) ?_
          refine ev_reti dX8_crossed_152 rfl rfl ?_
          exact hp M0 (ag_rf M0 _ _) h
        · rw [if_neg hw0] at hp
          refine ev_iload (i := 4) dX8_crossed_26 rfl ?_
          refine ev_aload_n (i := 0) dX8_crossed_28 rfl rfl ?_
          refine ev_getfield dX8_crossed_29 fX8_64 (by first | omega | decide) (by first | assumption | (simp (disch := omega) only [mu_s, mu_n]; first | assumption | rfl)) (by rfl) ?_
          refine ev_icmp_geN 143 dX8_crossed_32 (by decide) (by omega) (by omega) (fun b32 => ?_) (fun b32 => by exfalso; omega)
          refine ev_iload_n (i := 1) dX8_crossed_143 rfl rfl ?_
          refine ev_if_neN 151 dX8_crossed_144 (by decide) (by omega) (fun b144 => ?_) (fun b144 => by exfalso; omega)
          refine ev_iload_n (i := 3) dX8_crossed_151 rfl rfl ?_
          refine ev_reti dX8_crossed_152 rfl rfl ?_
          exact hp M0 (ag_rf M0 _ _) h
      | succ k ih =>
        intro i st lx ly lz hi hb h2 e
        refine ev_iload (i := 4) dX8_crossed_26 rfl ?_
        refine ev_aload_n (i := 0) dX8_crossed_28 rfl rfl ?_
        refine ev_getfield dX8_crossed_29 fX8_64 (by first | omega | decide) (by first | assumption | (simp (disch := omega) only [mu_s, mu_n]; first | assumption | rfl)) (by rfl) ?_
        refine ev_icmp_geN 143 dX8_crossed_32 (by decide) (by omega) (by omega) (fun b32 => by exfalso; omega) (fun b32 => ?_)
        refine ev_iload (i := 4) dX8_crossed_35 rfl ?_
        refine ev_iconst (v := nI 1) dX8_crossed_37 rfl ?_
        refine ev_iaddN dX8_crossed_38 ?_
        refine ev_istore (i := 5) dX8_crossed_39 (by decide) rfl ?_
        refine inner (l.1 - (i + 1)) (i + 1) i st _ _ (by omega) (by omega) (by omega) h2 (fun st1 lx ly lz e1 e2 e3 => ?_)
        exact ih (i + 1) st1 lx ly lz (by omega) (by omega) e3 (e.trans (by rw [e1]; rfl))
    refine ev_iload_n (i := 1) dX8_crossed_5 rfl rfl ?_
    refine ev_i2l dX8_crossed_6 rfl ?_
    refine ev_lconst dX8_crossed_7 rfl ?_
    refine ev_lconst dX8_crossed_8 rfl ?_
    refine ev_S3 (μ1 := mX8_in) dX8_crossed_9 sX8_67 okX8_in (Nat.le_of_ble_eq_true rfl) (Nat.le_of_ble_eq_true rfl) ?_
    refine c_in ?_
    refine ev_top (i_op (congrArg bI ((in_r (n := 2) rfl).trans hx))) ?_
    refine ev_if_neB 18 dX8_crossed_12 (by decide) (fun b12 => ?_) (fun b12 => by cases b12)
    refine ev_iconst (v := nI 0) dX8_crossed_18 rfl ?_
    refine ev_istore_n (i := 2) dX8_crossed_19 rfl (by decide) rfl ?_
    refine ev_bipush (v := (-9)) dX8_crossed_20 rfl ?_
    refine ev_istore_n (i := 3) dX8_crossed_22 rfl (by decide) rfl ?_
    refine ev_iconst (v := nI 0) dX8_crossed_23 rfl ?_
    refine ev_istore (i := 4) dX8_crossed_24 (by decide) rfl ?_
    exact outer l.1 0 (0, none) _ _ _ (by omega) (by show 0 + 6 * l.1 ≤ 60; omega) ⟨fun _ => rfl, fun _ => rfl⟩ rfl
  | false =>
    rw [hx, if_neg (by decide)] at hp
    refine ev_iload_n (i := 1) dX8_crossed_5 rfl rfl ?_
    refine ev_i2l dX8_crossed_6 rfl ?_
    refine ev_lconst dX8_crossed_7 rfl ?_
    refine ev_lconst dX8_crossed_8 rfl ?_
    refine ev_S3 (μ1 := mX8_in) dX8_crossed_9 sX8_67 okX8_in (Nat.le_of_ble_eq_true rfl) (Nat.le_of_ble_eq_true rfl) ?_
    refine c_in ?_
    refine ev_top (i_op (congrArg bI ((in_r (n := 2) rfl).trans hx))) ?_
    refine ev_if_neB 18 dX8_crossed_12 (by decide) (fun b12 => by cases b12) (fun b12 => ?_)
    refine ev_bipush (v := (-2)) dX8_crossed_15 rfl ?_
    refine ev_reti dX8_crossed_17 rfl rfl ?_
    exact hp M0 (ag_rf M0 _ _) h
theorem en_eq (t : lt) (x sh k : Nat) : enB t (andn x sh) k = decide (andn x (sh ||| shBy t k) = 0) := by
  unfold enB
  rw [andn_2]
theorem R_least {x : Int32} (h : kM M s) (ho : cOk s) (hp : ∀ M1, ag M M1 72 88 → kM M1 (s) → P (some (.int (a_least s x))) M1) : Ev 88 7 mX8_least none 0 [.ref 72, .int x, .null, .null, .null] [] M P := by
  refine m_thr dX8_least_0 dX8_least_1 dX8_least_2 fwX8_60 h (fun M0 a0 h => ?_)
  replace hp : ∀ M1, ag M0 M1 72 88 → kM M1 (s) → P (some (.int (a_least s x))) M1 := fun M1 ha hk => hp M1 (ag_tr (ag_wd a0 : ag M M0 72 88) ha) hk
  clear a0
  obtain ⟨t, l, p, a, sl, v, sd⟩ := s
  obtain ⟨⟨e, x0⟩, hR⟩ := id h
  obtain ⟨h1, h2, h3, h11, h4, h5, h6, h7⟩ : arr M0 73 40 t.1 t.2 ∧ kML M0 l ∧ kG M0 79 p ∧ (∃ q, kG M0 80 q) ∧ kBk M0 a ∧ kKp M0 sl ∧ kMV M0 v ∧ kX M0 := id hR
  obtain ⟨o1, o2, o3, o4, o5, o6, o7⟩ : txOk t ∧ ltOk l ∧ pgOk p ∧ (∀ q ∈ a, pgOk q) ∧ a.length ≤ 14 ∧ (∀ i q, sl i = some q → pgOk q) ∧ ovOk v := ho
  have hO : kO M0 e t.1 l.1 a.length v.1 sd := x0
  have hl6 := o2.1
  have hv6 := o7.1
  unfold kO at x0
  unfold a_least at hp
  have h64 := pw_64 hl6
  have hpos := Nat.two_pow_pos l.1
  have hsh := shN_lt p.1 0
  cases hx : inR x 4096 with
  | true =>
    rw [if_pos hx] at hp
    obtain ⟨w, hw, rfl⟩ := inR_of hx (by decide)
    rw [n_cl (by omega)] at hp
    have lp : ∀ (j k : Nat) (lx : Value), k + j = 2 ^ l.1 → Ev 88 7 mX8_least none 25 [.ref 72, .int (nI w), .int (oI (lsN l (andn w (shN p.1 0)) k)), .int (nI k), lx] [] M0 P := by
      intro j
      induction j with
      | zero =>
        intro k lx hk
        obtain rfl : k = 2 ^ l.1 := by omega
        refine ev_iload_n (i := 3) dX8_least_25 rfl rfl ?_
        refine ev_aload_n (i := 0) dX8_least_26 rfl rfl ?_
        refine ev_V0 (μ1 := mX8_everyone) dX8_least_27 sX8_138 okX8_everyone (by first | omega | decide) (by first | assumption | (simp (disch := omega) only [mu_s, mu_n]; first | assumption | rfl)) (Nat.le_of_ble_eq_true rfl) (Nat.le_of_ble_eq_true rfl) ?_
        refine c_everyone hO hl6 ?_
        refine ev_icmp_gtN 94 dX8_least_30 (by decide) (by omega) (by omega) (fun b30 => ?_) (fun b30 => by exfalso; omega)
        refine ev_iload_n (i := 2) dX8_least_94 rfl rfl ?_
        refine ev_reti dX8_least_95 rfl rfl ?_
        exact hp M0 (ag_rf M0 _ _) h
      | succ j ih =>
        intro k lx hk
        have hsb := shBy_lt o2 k
        have hor : shN p.1 0 ||| shBy l k < 2 ^ 12 := Nat.or_lt_two_pow hsh hsb
        have hle := andn_le w (shN p.1 0 ||| shBy l k)
        obtain ⟨L1, L2, L3⟩ := lsN_c (t := l) (ms := andn w (shN p.1 0)) (k := k)
        have hck := cnt_le k
        have en := en_eq l w (shN p.1 0) k
        cases hq : lsN l (andn w (shN p.1 0)) k with
        | none =>
          by_cases h0 : andn w (shN p.1 0 ||| shBy l k) = 0
          · have r := ih (k + 1) (.int (nI 1)) (by omega)
            rw [L1 (by rw [en]; exact decide_eq_true h0) (fun b hb => by rw [hq] at hb; cases hb)] at r
            refine ev_iload_n (i := 3) dX8_least_25 rfl rfl ?_
            refine ev_aload_n (i := 0) dX8_least_26 rfl rfl ?_
            refine ev_V0 (μ1 := mX8_everyone) dX8_least_27 sX8_138 okX8_everyone (by first | omega | decide) (by first | assumption | (simp (disch := omega) only [mu_s, mu_n]; first | assumption | rfl)) (Nat.le_of_ble_eq_true rfl) (Nat.le_of_ble_eq_true rfl) ?_
            refine c_everyone hO hl6 ?_
            refine ev_icmp_gtN 94 dX8_least_30 (by decide) (by omega) (by omega) (fun b30 => by exfalso; omega) (fun b30 => ?_)
            refine ev_iload_n (i := 2) dX8_least_33 rfl rfl ?_
            refine ev_bipush (v := (-9)) dX8_least_34 rfl ?_
            refine ev_icmp_eq 50 dX8_least_36 (by decide) (fun b36 => ?_) (fun b36 => absurd rfl b36)
            refine ev_iconst (v := nI 1) dX8_least_50 rfl ?_
            refine ev_goto 55 dX8_least_51 (by decide) ?_
            refine ev_istore (i := 4) dX8_least_55 (by decide) rfl ?_
            refine ev_iload (i := 4) dX8_least_57 rfl ?_
            refine ev_if_eqN 86 dX8_least_59 (by decide) (by omega) (fun b59 => by exfalso; omega) (fun b59 => ?_)
            refine ev_iload_n (i := 1) dX8_least_62 rfl rfl ?_
            refine ev_aload_n (i := 0) dX8_least_63 rfl rfl ?_
            refine ev_getfield dX8_least_64 fX8_28 (by first | omega | decide) (by first | assumption | (simp (disch := omega) only [mu_s, mu_n]; first | assumption | rfl)) (by rfl) ?_
            refine ev_S1 (μ1 := mX8_shown) dX8_least_67 sX8_102 okX8_shown (Nat.le_of_ble_eq_true rfl) (Nat.le_of_ble_eq_true rfl) ?_
            refine c_mShown (p := p) (by omega) h3 o3 ?_
            refine ev_aload_n (i := 0) dX8_least_70 rfl rfl ?_
            refine ev_iload_n (i := 3) dX8_least_71 rfl rfl ?_
            refine ev_V1 (μ1 := mX8_showsBy) dX8_least_72 sX8_141 okX8_showsBy (by first | omega | decide) (by first | assumption | (simp (disch := omega) only [mu_s, mu_n]; first | assumption | rfl)) (Nat.le_of_ble_eq_true rfl) (Nat.le_of_ble_eq_true rfl) ?_
            refine c_mShowsBy hO h2 o2 (by omega) ?_
            refine ev_iorN dX8_least_75 ?_
            refine ev_iconst (v := (-1)) dX8_least_76 rfl ?_
            refine ev_ixor dX8_least_77 ?_
            refine ev_iand dX8_least_78 ?_
            refine ev_top (i_op (andn_nI _ _)) ?_
            refine ev_if_neN 86 dX8_least_79 (by decide) (by omega) (fun b79 => by exfalso; omega) (fun b79 => ?_)
            refine ev_iload_n (i := 3) dX8_least_82 rfl rfl ?_
            refine ev_goto 87 dX8_least_83 (by decide) ?_
            refine ev_istore_n (i := 2) dX8_least_87 rfl (by decide) rfl ?_
            refine ev_incN dX8_least_88 (by rfl) (by decide) rfl ?_
            refine ev_goto 25 dX8_least_91 (by decide) ?_
            exact r
          · have r := ih (k + 1) (.int (nI 1)) (by omega)
            rw [L2 (by rw [en]; exact decide_eq_false h0), hq] at r
            refine ev_iload_n (i := 3) dX8_least_25 rfl rfl ?_
            refine ev_aload_n (i := 0) dX8_least_26 rfl rfl ?_
            refine ev_V0 (μ1 := mX8_everyone) dX8_least_27 sX8_138 okX8_everyone (by first | omega | decide) (by first | assumption | (simp (disch := omega) only [mu_s, mu_n]; first | assumption | rfl)) (Nat.le_of_ble_eq_true rfl) (Nat.le_of_ble_eq_true rfl) ?_
            refine c_everyone hO hl6 ?_
            refine ev_icmp_gtN 94 dX8_least_30 (by decide) (by omega) (by omega) (fun b30 => by exfalso; omega) (fun b30 => ?_)
            refine ev_iload_n (i := 2) dX8_least_33 rfl rfl ?_
            refine ev_bipush (v := (-9)) dX8_least_34 rfl ?_
            refine ev_icmp_eq 50 dX8_least_36 (by decide) (fun b36 => ?_) (fun b36 => absurd rfl b36)
            refine ev_iconst (v := nI 1) dX8_least_50 rfl ?_
            refine ev_goto 55 dX8_least_51 (by decide) ?_
            refine ev_istore (i := 4) dX8_least_55 (by decide) rfl ?_
            refine ev_iload (i := 4) dX8_least_57 rfl ?_
            refine ev_if_eqN 86 dX8_least_59 (by decide) (by omega) (fun b59 => by exfalso; omega) (fun b59 => ?_)
            refine ev_iload_n (i := 1) dX8_least_62 rfl rfl ?_
            refine ev_aload_n (i := 0) dX8_least_63 rfl rfl ?_
            refine ev_getfield dX8_least_64 fX8_28 (by first | omega | decide) (by first | assumption | (simp (disch := omega) only [mu_s, mu_n]; first | assumption | rfl)) (by rfl) ?_
            refine ev_S1 (μ1 := mX8_shown) dX8_least_67 sX8_102 okX8_shown (Nat.le_of_ble_eq_true rfl) (Nat.le_of_ble_eq_true rfl) ?_
            refine c_mShown (p := p) (by omega) h3 o3 ?_
            refine ev_aload_n (i := 0) dX8_least_70 rfl rfl ?_
            refine ev_iload_n (i := 3) dX8_least_71 rfl rfl ?_
            refine ev_V1 (μ1 := mX8_showsBy) dX8_least_72 sX8_141 okX8_showsBy (by first | omega | decide) (by first | assumption | (simp (disch := omega) only [mu_s, mu_n]; first | assumption | rfl)) (Nat.le_of_ble_eq_true rfl) (Nat.le_of_ble_eq_true rfl) ?_
            refine c_mShowsBy hO h2 o2 (by omega) ?_
            refine ev_iorN dX8_least_75 ?_
            refine ev_iconst (v := (-1)) dX8_least_76 rfl ?_
            refine ev_ixor dX8_least_77 ?_
            refine ev_iand dX8_least_78 ?_
            refine ev_top (i_op (andn_nI _ _)) ?_
            refine ev_if_neN 86 dX8_least_79 (by decide) (by omega) (fun b79 => ?_) (fun b79 => by exfalso; omega)
            refine ev_iload_n (i := 2) dX8_least_86 rfl rfl ?_
            refine ev_istore_n (i := 2) dX8_least_87 rfl (by decide) rfl ?_
            refine ev_incN dX8_least_88 (by rfl) (by decide) rfl ?_
            refine ev_goto 25 dX8_least_91 (by decide) ?_
            exact r
        | some b =>
          have hbk := lsN_lt hq
          have hcb := cnt_le b
          have h9 : ¬ oI (some b) = (-9) := n_9 (by omega)
          by_cases hc : cnt k < cnt b
          · by_cases h0 : andn w (shN p.1 0 ||| shBy l k) = 0
            · have r := ih (k + 1) (.int (nI 1)) (by omega)
              rw [L1 (by rw [en]; exact decide_eq_true h0) (fun b1 hb => by rw [hq] at hb; cases hb; exact hc)] at r
              refine ev_iload_n (i := 3) dX8_least_25 rfl rfl ?_
              refine ev_aload_n (i := 0) dX8_least_26 rfl rfl ?_
              refine ev_V0 (μ1 := mX8_everyone) dX8_least_27 sX8_138 okX8_everyone (by first | omega | decide) (by first | assumption | (simp (disch := omega) only [mu_s, mu_n]; first | assumption | rfl)) (Nat.le_of_ble_eq_true rfl) (Nat.le_of_ble_eq_true rfl) ?_
              refine c_everyone hO hl6 ?_
              refine ev_icmp_gtN 94 dX8_least_30 (by decide) (by omega) (by omega) (fun b30 => by exfalso; omega) (fun b30 => ?_)
              refine ev_iload_n (i := 2) dX8_least_33 rfl rfl ?_
              refine ev_bipush (v := (-9)) dX8_least_34 rfl ?_
              refine ev_icmp_eq 50 dX8_least_36 (by decide) (fun b36 => absurd b36 h9) (fun b36 => ?_)
              refine ev_iload_n (i := 3) dX8_least_39 rfl rfl ?_
              refine ev_S1 (μ1 := mX8_many) dX8_least_40 sX8_127 okX8_many (Nat.le_of_ble_eq_true rfl) (Nat.le_of_ble_eq_true rfl) ?_
              refine c_many (by omega) ?_
              refine ev_iload_n (i := 2) dX8_least_43 rfl rfl ?_
              refine ev_S1 (μ1 := mX8_many) dX8_least_44 sX8_127 okX8_many (Nat.le_of_ble_eq_true rfl) (Nat.le_of_ble_eq_true rfl) ?_
              refine c_many (n := b) (by omega) ?_
              refine ev_icmp_geN 54 dX8_least_47 (by decide) (by omega) (by omega) (fun b47 => by exfalso; omega) (fun b47 => ?_)
              refine ev_iconst (v := nI 1) dX8_least_50 rfl ?_
              refine ev_goto 55 dX8_least_51 (by decide) ?_
              refine ev_istore (i := 4) dX8_least_55 (by decide) rfl ?_
              refine ev_iload (i := 4) dX8_least_57 rfl ?_
              refine ev_if_eqN 86 dX8_least_59 (by decide) (by omega) (fun b59 => by exfalso; omega) (fun b59 => ?_)
              refine ev_iload_n (i := 1) dX8_least_62 rfl rfl ?_
              refine ev_aload_n (i := 0) dX8_least_63 rfl rfl ?_
              refine ev_getfield dX8_least_64 fX8_28 (by first | omega | decide) (by first | assumption | (simp (disch := omega) only [mu_s, mu_n]; first | assumption | rfl)) (by rfl) ?_
              refine ev_S1 (μ1 := mX8_shown) dX8_least_67 sX8_102 okX8_shown (Nat.le_of_ble_eq_true rfl) (Nat.le_of_ble_eq_true rfl) ?_
              refine c_mShown (p := p) (by omega) h3 o3 ?_
              refine ev_aload_n (i := 0) dX8_least_70 rfl rfl ?_
              refine ev_iload_n (i := 3) dX8_least_71 rfl rfl ?_
              refine ev_V1 (μ1 := mX8_showsBy) dX8_least_72 sX8_141 okX8_showsBy (by first | omega | decide) (by first | assumption | (simp (disch := omega) only [mu_s, mu_n]; first | assumption | rfl)) (Nat.le_of_ble_eq_true rfl) (Nat.le_of_ble_eq_true rfl) ?_
              refine c_mShowsBy hO h2 o2 (by omega) ?_
              refine ev_iorN dX8_least_75 ?_
              refine ev_iconst (v := (-1)) dX8_least_76 rfl ?_
              refine ev_ixor dX8_least_77 ?_
              refine ev_iand dX8_least_78 ?_
              refine ev_top (i_op (andn_nI _ _)) ?_
              refine ev_if_neN 86 dX8_least_79 (by decide) (by omega) (fun b79 => by exfalso; omega) (fun b79 => ?_)
              refine ev_iload_n (i := 3) dX8_least_82 rfl rfl ?_
              refine ev_goto 87 dX8_least_83 (by decide) ?_
              refine ev_istore_n (i := 2) dX8_least_87 rfl (by decide) rfl ?_
              refine ev_incN dX8_least_88 (by rfl) (by decide) rfl ?_
              refine ev_goto 25 dX8_least_91 (by decide) ?_
              exact r
            · have r := ih (k + 1) (.int (nI 1)) (by omega)
              rw [L2 (by rw [en]; exact decide_eq_false h0), hq] at r
              refine ev_iload_n (i := 3) dX8_least_25 rfl rfl ?_
              refine ev_aload_n (i := 0) dX8_least_26 rfl rfl ?_
              refine ev_V0 (μ1 := mX8_everyone) dX8_least_27 sX8_138 okX8_everyone (by first | omega | decide) (by first | assumption | (simp (disch := omega) only [mu_s, mu_n]; first | assumption | rfl)) (Nat.le_of_ble_eq_true rfl) (Nat.le_of_ble_eq_true rfl) ?_
              refine c_everyone hO hl6 ?_
              refine ev_icmp_gtN 94 dX8_least_30 (by decide) (by omega) (by omega) (fun b30 => by exfalso; omega) (fun b30 => ?_)
              refine ev_iload_n (i := 2) dX8_least_33 rfl rfl ?_
              refine ev_bipush (v := (-9)) dX8_least_34 rfl ?_
              refine ev_icmp_eq 50 dX8_least_36 (by decide) (fun b36 => absurd b36 h9) (fun b36 => ?_)
              refine ev_iload_n (i := 3) dX8_least_39 rfl rfl ?_
              refine ev_S1 (μ1 := mX8_many) dX8_least_40 sX8_127 okX8_many (Nat.le_of_ble_eq_true rfl) (Nat.le_of_ble_eq_true rfl) ?_
              refine c_many (by omega) ?_
              refine ev_iload_n (i := 2) dX8_least_43 rfl rfl ?_
              refine ev_S1 (μ1 := mX8_many) dX8_least_44 sX8_127 okX8_many (Nat.le_of_ble_eq_true rfl) (Nat.le_of_ble_eq_true rfl) ?_
              refine c_many (n := b) (by omega) ?_
              refine ev_icmp_geN 54 dX8_least_47 (by decide) (by omega) (by omega) (fun b47 => by exfalso; omega) (fun b47 => ?_)
              refine ev_iconst (v := nI 1) dX8_least_50 rfl ?_
              refine ev_goto 55 dX8_least_51 (by decide) ?_
              refine ev_istore (i := 4) dX8_least_55 (by decide) rfl ?_
              refine ev_iload (i := 4) dX8_least_57 rfl ?_
              refine ev_if_eqN 86 dX8_least_59 (by decide) (by omega) (fun b59 => by exfalso; omega) (fun b59 => ?_)
              refine ev_iload_n (i := 1) dX8_least_62 rfl rfl ?_
              refine ev_aload_n (i := 0) dX8_least_63 rfl rfl ?_
              refine ev_getfield dX8_least_64 fX8_28 (by first | omega | decide) (by first | assumption | (simp (disch := omega) only [mu_s, mu_n]; first | assumption | rfl)) (by rfl) ?_
              refine ev_S1 (μ1 := mX8_shown) dX8_least_67 sX8_102 okX8_shown (Nat.le_of_ble_eq_true rfl) (Nat.le_of_ble_eq_true rfl) ?_
              refine c_mShown (p := p) (by omega) h3 o3 ?_
              refine ev_aload_n (i := 0) dX8_least_70 rfl rfl ?_
              refine ev_iload_n (i := 3) dX8_least_71 rfl rfl ?_
              refine ev_V1 (μ1 := mX8_showsBy) dX8_least_72 sX8_141 okX8_showsBy (by first | omega | decide) (by first | assumption | (simp (disch := omega) only [mu_s, mu_n]; first | assumption | rfl)) (Nat.le_of_ble_eq_true rfl) (Nat.le_of_ble_eq_true rfl) ?_
              refine c_mShowsBy hO h2 o2 (by omega) ?_
              refine ev_iorN dX8_least_75 ?_
              refine ev_iconst (v := (-1)) dX8_least_76 rfl ?_
              refine ev_ixor dX8_least_77 ?_
              refine ev_iand dX8_least_78 ?_
              refine ev_top (i_op (andn_nI _ _)) ?_
              refine ev_if_neN 86 dX8_least_79 (by decide) (by omega) (fun b79 => ?_) (fun b79 => by exfalso; omega)
              refine ev_iload_n (i := 2) dX8_least_86 rfl rfl ?_
              refine ev_istore_n (i := 2) dX8_least_87 rfl (by decide) rfl ?_
              refine ev_incN dX8_least_88 (by rfl) (by decide) rfl ?_
              refine ev_goto 25 dX8_least_91 (by decide) ?_
              exact r
          · have r := ih (k + 1) (.int (nI 0)) (by omega)
            rw [L3 b hq (by omega), hq] at r
            refine ev_iload_n (i := 3) dX8_least_25 rfl rfl ?_
            refine ev_aload_n (i := 0) dX8_least_26 rfl rfl ?_
            refine ev_V0 (μ1 := mX8_everyone) dX8_least_27 sX8_138 okX8_everyone (by first | omega | decide) (by first | assumption | (simp (disch := omega) only [mu_s, mu_n]; first | assumption | rfl)) (Nat.le_of_ble_eq_true rfl) (Nat.le_of_ble_eq_true rfl) ?_
            refine c_everyone hO hl6 ?_
            refine ev_icmp_gtN 94 dX8_least_30 (by decide) (by omega) (by omega) (fun b30 => by exfalso; omega) (fun b30 => ?_)
            refine ev_iload_n (i := 2) dX8_least_33 rfl rfl ?_
            refine ev_bipush (v := (-9)) dX8_least_34 rfl ?_
            refine ev_icmp_eq 50 dX8_least_36 (by decide) (fun b36 => absurd b36 h9) (fun b36 => ?_)
            refine ev_iload_n (i := 3) dX8_least_39 rfl rfl ?_
            refine ev_S1 (μ1 := mX8_many) dX8_least_40 sX8_127 okX8_many (Nat.le_of_ble_eq_true rfl) (Nat.le_of_ble_eq_true rfl) ?_
            refine c_many (by omega) ?_
            refine ev_iload_n (i := 2) dX8_least_43 rfl rfl ?_
            refine ev_S1 (μ1 := mX8_many) dX8_least_44 sX8_127 okX8_many (Nat.le_of_ble_eq_true rfl) (Nat.le_of_ble_eq_true rfl) ?_
            refine c_many (n := b) (by omega) ?_
            refine ev_icmp_geN 54 dX8_least_47 (by decide) (by omega) (by omega) (fun b47 => ?_) (fun b47 => by exfalso; omega)
            refine ev_iconst (v := nI 0) dX8_least_54 rfl ?_
            refine ev_istore (i := 4) dX8_least_55 (by decide) rfl ?_
            refine ev_iload (i := 4) dX8_least_57 rfl ?_
            refine ev_if_eqN 86 dX8_least_59 (by decide) (by omega) (fun b59 => ?_) (fun b59 => by exfalso; omega)
            refine ev_iload_n (i := 2) dX8_least_86 rfl rfl ?_
            refine ev_istore_n (i := 2) dX8_least_87 rfl (by decide) rfl ?_
            refine ev_incN dX8_least_88 (by rfl) (by decide) rfl ?_
            refine ev_goto 25 dX8_least_91 (by decide) ?_
            exact r
    refine ev_iload_n (i := 1) dX8_least_5 rfl rfl ?_
    refine ev_i2l dX8_least_6 rfl ?_
    refine ev_lconst dX8_least_7 rfl ?_
    refine ev_ldc2_w dX8_least_8 kX8_164 ?_
    refine ev_S3 (μ1 := mX8_in) dX8_least_11 sX8_67 okX8_in (Nat.le_of_ble_eq_true rfl) (Nat.le_of_ble_eq_true rfl) ?_
    refine c_in ?_
    refine ev_top (i_op (congrArg bI ((in_r (n := 4096) rfl).trans hx))) ?_
    refine ev_if_neB 20 dX8_least_14 (by decide) (fun b14 => ?_) (fun b14 => by cases b14)
    refine ev_bipush (v := (-9)) dX8_least_20 rfl ?_
    refine ev_istore_n (i := 2) dX8_least_22 rfl (by decide) rfl ?_
    refine ev_iconst (v := nI 0) dX8_least_23 rfl ?_
    refine ev_istore_n (i := 3) dX8_least_24 rfl (by decide) rfl ?_
    exact lp (2 ^ l.1) 0 _ (by omega)
  | false =>
    rw [hx, if_neg (by decide)] at hp
    refine ev_iload_n (i := 1) dX8_least_5 rfl rfl ?_
    refine ev_i2l dX8_least_6 rfl ?_
    refine ev_lconst dX8_least_7 rfl ?_
    refine ev_ldc2_w dX8_least_8 kX8_164 ?_
    refine ev_S3 (μ1 := mX8_in) dX8_least_11 sX8_67 okX8_in (Nat.le_of_ble_eq_true rfl) (Nat.le_of_ble_eq_true rfl) ?_
    refine c_in ?_
    refine ev_top (i_op (congrArg bI ((in_r (n := 4096) rfl).trans hx))) ?_
    refine ev_if_neB 20 dX8_least_14 (by decide) (fun b14 => by cases b14) (fun b14 => ?_)
    refine ev_bipush (v := (-2)) dX8_least_17 rfl ?_
    refine ev_reti dX8_least_19 rfl rfl ?_
    exact hp M0 (ag_rf M0 _ _) h
end MDV
