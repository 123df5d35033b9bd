section MDT
variable {M : mM} {P : Option Value → mM → Prop} {s : cs}
theorem R_letter {x y : Int32} (h : kM M s) (ho : cOk s) (hp : ∀ M1, ag M M1 72 88 → kM M1 (s) → P (some (.int (a_letter s x y))) M1) : Ev 88 7 mX8_letter none 0 [.ref 72, .int x, .int y] [] M P := by
  refine m_thr dX8_letter_0 dX8_letter_1 dX8_letter_2 fwX8_60 h (fun M0 a0 h => ?_)
  replace hp : ∀ M1, ag M0 M1 72 88 → kM M1 (s) → P (some (.int (a_letter s x y))) M1 := fun M1 ha hk => hp M1 (ag_tr (ag_wd a0 : ag M M0 72 88) ha) hk
  clear a0
  obtain ⟨t, l, p, a, sl, v, sd⟩ := s
  obtain ⟨⟨e, x0⟩, hR⟩ := id h
  obtain ⟨h1, h2, h3, h11, h4, h5, h6, h7⟩ : arr M0 73 40 t.1 t.2 ∧ kML M0 l ∧ kG M0 79 p ∧ (∃ q, kG M0 80 q) ∧ kBk M0 a ∧ kKp M0 sl ∧ kMV M0 v ∧ kX M0 := id hR
  obtain ⟨o1, o2, o3, o4, o5, o6, o7⟩ : txOk t ∧ ltOk l ∧ pgOk p ∧ (∀ q ∈ a, pgOk q) ∧ a.length ≤ 14 ∧ (∀ i q, sl i = some q → pgOk q) ∧ ovOk v := ho
  have hO : kO M0 e t.1 l.1 a.length v.1 sd := x0
  have hl6 := o2.1
  have hv6 := o7.1
  unfold kO at x0
  unfold a_letter at hp
  obtain ⟨⟨fa, xa, ya⟩, ⟨fb, xb, yb⟩, ⟨fc, xc, yc⟩, ⟨fd, xd, yd⟩⟩ := id h2
  cases hx : inR x l.1 with
  | true =>
    rw [if_pos hx] at hp
    obtain ⟨j, hj, rfl⟩ := inR_of hx (by omega)
    have hcl : (nI j).toNatClampNeg = j := n_cl (by omega)
    rw [hcl] at hp
    cases hy : inR y 5 with
    | true =>
      rw [if_pos hy] at hp
      obtain ⟨k, hk, rfl⟩ := inR_of hy (by decide)
      rw [n_cl (by omega)] at hp
      rcases (show k = 0 ∨ k = 1 ∨ k = 2 ∨ k = 3 ∨ k = 4 by omega) with rfl | rfl | rfl | rfl | rfl
      · skip
        refine ev_aload_n (i := 0) dX8_letter_5 rfl rfl ?_
        refine ev_iload_n (i := 1) dX8_letter_6 rfl rfl ?_
        refine ev_V1 (μ1 := mX8_noLetter) dX8_letter_7 sX8_113 okX8_noLetter (by first | omega | decide) (by first | assumption | (simp (disch := omega) only [mu_s, mu_n]; first | assumption | rfl)) (Nat.le_of_ble_eq_true rfl) (Nat.le_of_ble_eq_true rfl) ?_
        refine c_noLetter hO hl6 ?_
        refine ev_top (i_op (congrArg bI ((congrArg Bool.not hx).trans rfl : (!inR (nI j) l.1) = false))) ?_
        refine ev_if_eqB 15 dX8_letter_10 (by decide) (fun b10 => ?_) (fun b10 => by cases b10)
        refine ev_iload_n (i := 2) dX8_letter_15 rfl rfl ?_
        refine ev_tsw_in (off := 36) 52 dX8_letter_16 (by decide) (by decide) (by decide) (by decide) ?_
        refine ev_aload_n (i := 0) dX8_letter_52 rfl rfl ?_
        refine ev_getfield dX8_letter_53 fX8_13 (by first | omega | decide) (by first | assumption | (simp (disch := omega) only [mu_s, mu_n]; first | assumption | rfl)) (by rfl) ?_
        refine ev_iload_n (i := 1) dX8_letter_56 rfl rfl ?_
        refine ev_ialoadN dX8_letter_57 (by first | omega | decide) (by first | assumption | (simp (disch := omega) only [mu_s, mu_n]; first | assumption | rfl)) (by omega) (by decide) ?_
        refine ev_reti dX8_letter_58 rfl rfl ?_
        rw [ya j hj]; exact hp M0 (ag_rf M0 _ _) h
      · skip
        refine ev_aload_n (i := 0) dX8_letter_5 rfl rfl ?_
        refine ev_iload_n (i := 1) dX8_letter_6 rfl rfl ?_
        refine ev_V1 (μ1 := mX8_noLetter) dX8_letter_7 sX8_113 okX8_noLetter (by first | omega | decide) (by first | assumption | (simp (disch := omega) only [mu_s, mu_n]; first | assumption | rfl)) (Nat.le_of_ble_eq_true rfl) (Nat.le_of_ble_eq_true rfl) ?_
        refine c_noLetter hO hl6 ?_
        refine ev_top (i_op (congrArg bI ((congrArg Bool.not hx).trans rfl : (!inR (nI j) l.1) = false))) ?_
        refine ev_if_eqB 15 dX8_letter_10 (by decide) (fun b10 => ?_) (fun b10 => by cases b10)
        refine ev_iload_n (i := 2) dX8_letter_15 rfl rfl ?_
        refine ev_tsw_in (off := 43) 59 dX8_letter_16 (by decide) (by decide) (by decide) (by decide) ?_
        refine ev_aload_n (i := 0) dX8_letter_59 rfl rfl ?_
        refine ev_getfield dX8_letter_60 fX8_16 (by first | omega | decide) (by first | assumption | (simp (disch := omega) only [mu_s, mu_n]; first | assumption | rfl)) (by rfl) ?_
        refine ev_iload_n (i := 1) dX8_letter_63 rfl rfl ?_
        refine ev_ialoadN dX8_letter_64 (by first | omega | decide) (by first | assumption | (simp (disch := omega) only [mu_s, mu_n]; first | assumption | rfl)) (by omega) (by decide) ?_
        refine ev_reti dX8_letter_65 rfl rfl ?_
        rw [yb j hj]; exact hp M0 (ag_rf M0 _ _) h
      · skip
        refine ev_aload_n (i := 0) dX8_letter_5 rfl rfl ?_
        refine ev_iload_n (i := 1) dX8_letter_6 rfl rfl ?_
        refine ev_V1 (μ1 := mX8_noLetter) dX8_letter_7 sX8_113 okX8_noLetter (by first | omega | decide) (by first | assumption | (simp (disch := omega) only [mu_s, mu_n]; first | assumption | rfl)) (Nat.le_of_ble_eq_true rfl) (Nat.le_of_ble_eq_true rfl) ?_
        refine c_noLetter hO hl6 ?_
        refine ev_top (i_op (congrArg bI ((congrArg Bool.not hx).trans rfl : (!inR (nI j) l.1) = false))) ?_
        refine ev_if_eqB 15 dX8_letter_10 (by decide) (fun b10 => ?_) (fun b10 => by cases b10)
        refine ev_iload_n (i := 2) dX8_letter_15 rfl rfl ?_
        refine ev_tsw_in (off := 50) 66 dX8_letter_16 (by decide) (by decide) (by decide) (by decide) ?_
        refine ev_aload_n (i := 0) dX8_letter_66 rfl rfl ?_
        refine ev_getfield dX8_letter_67 fX8_19 (by first | omega | decide) (by first | assumption | (simp (disch := omega) only [mu_s, mu_n]; first | assumption | rfl)) (by rfl) ?_
        refine ev_iload_n (i := 1) dX8_letter_70 rfl rfl ?_
        refine ev_ialoadN dX8_letter_71 (by first | omega | decide) (by first | assumption | (simp (disch := omega) only [mu_s, mu_n]; first | assumption | rfl)) (by omega) (by decide) ?_
        refine ev_reti dX8_letter_72 rfl rfl ?_
        rw [yc j hj]; exact hp M0 (ag_rf M0 _ _) h
      · skip
        refine ev_aload_n (i := 0) dX8_letter_5 rfl rfl ?_
        refine ev_iload_n (i := 1) dX8_letter_6 rfl rfl ?_
        refine ev_V1 (μ1 := mX8_noLetter) dX8_letter_7 sX8_113 okX8_noLetter (by first | omega | decide) (by first | assumption | (simp (disch := omega) only [mu_s, mu_n]; first | assumption | rfl)) (Nat.le_of_ble_eq_true rfl) (Nat.le_of_ble_eq_true rfl) ?_
        refine c_noLetter hO hl6 ?_
        refine ev_top (i_op (congrArg bI ((congrArg Bool.not hx).trans rfl : (!inR (nI j) l.1) = false))) ?_
        refine ev_if_eqB 15 dX8_letter_10 (by decide) (fun b10 => ?_) (fun b10 => by cases b10)
        refine ev_iload_n (i := 2) dX8_letter_15 rfl rfl ?_
        refine ev_tsw_in (off := 57) 73 dX8_letter_16 (by decide) (by decide) (by decide) (by decide) ?_
        refine ev_aload_n (i := 0) dX8_letter_73 rfl rfl ?_
        refine ev_getfield dX8_letter_74 fX8_22 (by first | omega | decide) (by first | assumption | (simp (disch := omega) only [mu_s, mu_n]; first | assumption | rfl)) (by rfl) ?_
        refine ev_iload_n (i := 1) dX8_letter_77 rfl rfl ?_
        refine ev_ialoadN dX8_letter_78 (by first | omega | decide) (by first | assumption | (simp (disch := omega) only [mu_s, mu_n]; first | assumption | rfl)) (by omega) (by decide) ?_
        refine ev_reti dX8_letter_79 rfl rfl ?_
        rw [yd j hj]; exact hp M0 (ag_rf M0 _ _) h
      · skip
        refine ev_aload_n (i := 0) dX8_letter_5 rfl rfl ?_
        refine ev_iload_n (i := 1) dX8_letter_6 rfl rfl ?_
        refine ev_V1 (μ1 := mX8_noLetter) dX8_letter_7 sX8_113 okX8_noLetter (by first | omega | decide) (by first | assumption | (simp (disch := omega) only [mu_s, mu_n]; first | assumption | rfl)) (Nat.le_of_ble_eq_true rfl) (Nat.le_of_ble_eq_true rfl) ?_
        refine c_noLetter hO hl6 ?_
        refine ev_top (i_op (congrArg bI ((congrArg Bool.not hx).trans rfl : (!inR (nI j) l.1) = false))) ?_
        refine ev_if_eqB 15 dX8_letter_10 (by decide) (fun b10 => ?_) (fun b10 => by cases b10)
        refine ev_iload_n (i := 2) dX8_letter_15 rfl rfl ?_
        refine ev_tsw_in (off := 64) 80 dX8_letter_16 (by decide) (by decide) (by decide) (by decide) ?_
        refine ev_aload_n (i := 0) dX8_letter_80 rfl rfl ?_
        refine ev_iload_n (i := 1) dX8_letter_81 rfl rfl ?_
        refine ev_aload_n (i := 0) dX8_letter_82 rfl rfl ?_
        refine ev_getfield dX8_letter_83 fX8_28 (by first | omega | decide) (by first | assumption | (simp (disch := omega) only [mu_s, mu_n]; first | assumption | rfl)) (by rfl) ?_
        refine ev_S1 (μ1 := mX8_shown) dX8_letter_86 sX8_102 okX8_shown (Nat.le_of_ble_eq_true rfl) (Nat.le_of_ble_eq_true rfl) ?_
        refine c_mShown (by omega) h3 o3 ?_
        refine ev_V2 (μ1 := mX8_isRead) dX8_letter_89 sX8_95 okX8_isRead (by first | omega | decide) (by first | assumption | (simp (disch := omega) only [mu_s, mu_n]; first | assumption | rfl)) (Nat.le_of_ble_eq_true rfl) (Nat.le_of_ble_eq_true rfl) ?_
        refine c_mIsRead hO h2 o2 hj ?_
        refine ev_if_eqB 99 dX8_letter_92 (by decide) (fun b92 => ?_) (fun b92 => ?_)
        · skip
          refine ev_iconst (v := nI 0) dX8_letter_99 rfl ?_
          refine ev_reti dX8_letter_100 rfl rfl ?_
          first
          | (have q : rdN l (shN p.1 0) j = true := b92
             exact e_retT q (hp M0 (ag_rf M0 _ _) h))
          | (have q : rdN l (shN p.1 0) j = false := b92
             exact e_retF q (hp M0 (ag_rf M0 _ _) h))
        · skip
          refine ev_iconst (v := nI 1) dX8_letter_95 rfl ?_
          refine ev_goto 100 dX8_letter_96 (by decide) ?_
          refine ev_reti dX8_letter_100 rfl rfl ?_
          first
          | (have q : rdN l (shN p.1 0) j = true := b92
             exact e_retT q (hp M0 (ag_rf M0 _ _) h))
          | (have q : rdN l (shN p.1 0) j = false := b92
             exact e_retF q (hp M0 (ag_rf M0 _ _) h))
    | false =>
      rw [hy, if_neg (by decide)] at hp
      refine ev_aload_n (i := 0) dX8_letter_5 rfl rfl ?_
      refine ev_iload_n (i := 1) dX8_letter_6 rfl rfl ?_
      refine ev_V1 (μ1 := mX8_noLetter) dX8_letter_7 sX8_113 okX8_noLetter (by first | omega | decide) (by first | assumption | (simp (disch := omega) only [mu_s, mu_n]; first | assumption | rfl)) (Nat.le_of_ble_eq_true rfl) (Nat.le_of_ble_eq_true rfl) ?_
      refine c_noLetter hO hl6 ?_
      refine ev_top (i_op (congrArg bI ((congrArg Bool.not hx).trans rfl : (!inR (nI j) l.1) = false))) ?_
      refine ev_if_eqB 15 dX8_letter_10 (by decide) (fun b10 => ?_) (fun b10 => by cases b10)
      refine ev_iload_n (i := 2) dX8_letter_15 rfl rfl ?_
      refine ev_tsw_out 101 dX8_letter_16 (by have := inR_out hy; omega) (by decide) ?_
      refine ev_bipush (v := (-2)) dX8_letter_101 rfl ?_
      refine ev_reti dX8_letter_103 rfl rfl ?_
      exact hp M0 (ag_rf M0 _ _) h
  | false =>
    rw [hx, if_neg (by decide)] at hp
    refine ev_aload_n (i := 0) dX8_letter_5 rfl rfl ?_
    refine ev_iload_n (i := 1) dX8_letter_6 rfl rfl ?_
    refine ev_V1 (μ1 := mX8_noLetter) dX8_letter_7 sX8_113 okX8_noLetter (by first | omega | decide) (by first | assumption | (simp (disch := omega) only [mu_s, mu_n]; first | assumption | rfl)) (Nat.le_of_ble_eq_true rfl) (Nat.le_of_ble_eq_true rfl) ?_
    refine c_noLetter hO hl6 ?_
    refine ev_top (i_op (congrArg bI ((congrArg Bool.not hx).trans rfl : (!inR x l.1) = true))) ?_
    refine ev_if_eqB 15 dX8_letter_10 (by decide) (fun b10 => by cases b10) (fun b10 => ?_)
    refine ev_iconst (v := (-1)) dX8_letter_13 rfl ?_
    refine ev_reti dX8_letter_14 rfl rfl ?_
    exact hp M0 (ag_rf M0 _ _) h
theorem R_about {x : Int32} (h : kM M s) (ho : cOk s) (hp : ∀ M1, ag M M1 72 88 → kM M1 (s) → P (some (.int (a_about s x))) M1) : Ev 88 7 mX8_about none 0 [.ref 72, .int x, .null, .null, .null] [] M P := by
  refine m_thr dX8_about_0 dX8_about_1 dX8_about_2 fwX8_60 h (fun M0 a0 h => ?_)
  replace hp : ∀ M1, ag M0 M1 72 88 → kM M1 (s) → P (some (.int (a_about s x))) M1 := fun M1 ha hk => hp M1 (ag_tr (ag_wd a0 : ag M M0 72 88) ha) hk
  clear a0
  obtain ⟨t, l, p, a, sl, v, sd⟩ := s
  obtain ⟨⟨e, x0⟩, hR⟩ := id h
  obtain ⟨h1, h2, h3, h11, h4, h5, h6, h7⟩ : arr M0 73 40 t.1 t.2 ∧ kML M0 l ∧ kG M0 79 p ∧ (∃ q, kG M0 80 q) ∧ kBk M0 a ∧ kKp M0 sl ∧ kMV M0 v ∧ kX M0 := id hR
  obtain ⟨o1, o2, o3, o4, o5, o6, o7⟩ : txOk t ∧ ltOk l ∧ pgOk p ∧ (∀ q ∈ a, pgOk q) ∧ a.length ≤ 14 ∧ (∀ i q, sl i = some q → pgOk q) ∧ ovOk v := ho
  have hO : kO M0 e t.1 l.1 a.length v.1 sd := x0
  have hl6 := o2.1
  have hv6 := o7.1
  unfold kO at x0
  unfold a_about at hp
  obtain ⟨f, f1, f2, f3, f4⟩ := id h3
  have lp : ∀ (j c acc : Nat), c + j = 12 → acc = oN (fun c => (p.2.1 c).isSome) (fun c => 2 ^ (p.2.1 c).getD 0) c → Ev 88 7 mX8_about none 71 [.ref 72, .int x, .int (nI (sN p.1 12)), .int (nI (topsN p)), .int (nI 12)] [] M0 P → Ev 88 7 mX8_about none 12 [.ref 72, .int x, .int (nI (sN p.1 c)), .int (nI acc), .int (nI c)] [] M0 P := by
    intro j
    induction j with
    | zero =>
      intro c acc hc ha kk
      obtain rfl : c = 12 := by omega
      subst ha
      refine ev_iload (i := 4) dX8_about_12 rfl ?_
      refine ev_bipush (v := nI 12) dX8_about_14 rfl ?_
      refine ev_icmp_geN 71 dX8_about_16 (by decide) (by omega) (by omega) (fun b16 => ?_) (fun b16 => by exfalso; omega)
      exact kk
    | succ j ih =>
      intro c acc hc ha kk
      have ht := (o3 c (by omega)).2
      cases hq : p.2.1 c with
      | none =>
        have hv9 : f (12 + c) = (-9) := by rw [f3 c (by omega), hq]; rfl
        refine ev_iload (i := 4) dX8_about_12 rfl ?_
        refine ev_bipush (v := nI 12) dX8_about_14 rfl ?_
        refine ev_icmp_geN 71 dX8_about_16 (by decide) (by omega) (by omega) (fun b16 => by exfalso; omega) (fun b16 => ?_)
        refine ev_iload_n (i := 2) dX8_about_19 rfl rfl ?_
        refine ev_aload_n (i := 0) dX8_about_20 rfl rfl ?_
        refine ev_getfield dX8_about_21 fX8_28 (by first | omega | decide) (by first | assumption | (simp (disch := omega) only [mu_s, mu_n]; first | assumption | rfl)) (by rfl) ?_
        refine ev_iconst (v := nI 0) dX8_about_24 rfl ?_
        refine ev_iload (i := 4) dX8_about_25 rfl ?_
        refine ev_iaddN dX8_about_27 ?_
        refine ev_ialoadN dX8_about_28 (by first | omega | decide) (by first | assumption | (simp (disch := omega) only [mu_s, mu_n]; first | assumption | rfl)) (by omega) (by decide) ?_
        refine ev_top (i_op ((congrArg f (Nat.zero_add c)).trans (f2 c (by omega)))) ?_
        refine ev_iaddN dX8_about_29 ?_
        refine ev_istore_n (i := 2) dX8_about_30 rfl (by decide) rfl ?_
        refine ev_iload_n (i := 3) dX8_about_31 rfl rfl ?_
        refine ev_aload_n (i := 0) dX8_about_32 rfl rfl ?_
        refine ev_getfield dX8_about_33 fX8_28 (by first | omega | decide) (by first | assumption | (simp (disch := omega) only [mu_s, mu_n]; first | assumption | rfl)) (by rfl) ?_
        refine ev_bipush (v := nI 12) dX8_about_36 rfl ?_
        refine ev_iload (i := 4) dX8_about_38 rfl ?_
        refine ev_iaddN dX8_about_40 ?_
        refine ev_ialoadN dX8_about_41 (by first | omega | decide) (by first | assumption | (simp (disch := omega) only [mu_s, mu_n]; first | assumption | rfl)) (by omega) (by decide) ?_
        refine ev_bipush (v := (-9)) dX8_about_42 rfl ?_
        refine ev_icmp_ne 51 dX8_about_44 (by decide) (fun b44 => absurd hv9 b44) (fun b44 => ?_)
        refine ev_iconst (v := nI 0) dX8_about_47 rfl ?_
        refine ev_goto 63 dX8_about_48 (by decide) ?_
        refine ev_iorN dX8_about_63 ?_
        refine ev_istore_n (i := 3) dX8_about_64 rfl (by decide) rfl ?_
        refine ev_incN dX8_about_65 (by rfl) (by decide) rfl ?_
        refine ev_goto 12 dX8_about_68 (by decide) ?_
        exact ih (c + 1) _ (by omega) (by rw [Nat.or_zero, ha]; exact oN_f (by rw [hq]; decide)) kk
      | some k =>
        have hl6 := ht k hq
        have hv9 : f (12 + c) = nI k := by rw [f3 c (by omega), hq]; rfl
        have hn9 : ¬ f (12 + c) = (-9) := by rw [f3 c (by omega)]; intro z; rw [(tI_9 ht).mp z] at hq; cases hq
        refine ev_iload (i := 4) dX8_about_12 rfl ?_
        refine ev_bipush (v := nI 12) dX8_about_14 rfl ?_
        refine ev_icmp_geN 71 dX8_about_16 (by decide) (by omega) (by omega) (fun b16 => by exfalso; omega) (fun b16 => ?_)
        refine ev_iload_n (i := 2) dX8_about_19 rfl rfl ?_
        refine ev_aload_n (i := 0) dX8_about_20 rfl rfl ?_
        refine ev_getfield dX8_about_21 fX8_28 (by first | omega | decide) (by first | assumption | (simp (disch := omega) only [mu_s, mu_n]; first | assumption | rfl)) (by rfl) ?_
        refine ev_iconst (v := nI 0) dX8_about_24 rfl ?_
        refine ev_iload (i := 4) dX8_about_25 rfl ?_
        refine ev_iaddN dX8_about_27 ?_
        refine ev_ialoadN dX8_about_28 (by first | omega | decide) (by first | assumption | (simp (disch := omega) only [mu_s, mu_n]; first | assumption | rfl)) (by omega) (by decide) ?_
        refine ev_top (i_op ((congrArg f (Nat.zero_add c)).trans (f2 c (by omega)))) ?_
        refine ev_iaddN dX8_about_29 ?_
        refine ev_istore_n (i := 2) dX8_about_30 rfl (by decide) rfl ?_
        refine ev_iload_n (i := 3) dX8_about_31 rfl rfl ?_
        refine ev_aload_n (i := 0) dX8_about_32 rfl rfl ?_
        refine ev_getfield dX8_about_33 fX8_28 (by first | omega | decide) (by first | assumption | (simp (disch := omega) only [mu_s, mu_n]; first | assumption | rfl)) (by rfl) ?_
        refine ev_bipush (v := nI 12) dX8_about_36 rfl ?_
        refine ev_iload (i := 4) dX8_about_38 rfl ?_
        refine ev_iaddN dX8_about_40 ?_
        refine ev_ialoadN dX8_about_41 (by first | omega | decide) (by first | assumption | (simp (disch := omega) only [mu_s, mu_n]; first | assumption | rfl)) (by omega) (by decide) ?_
        refine ev_bipush (v := (-9)) dX8_about_42 rfl ?_
        refine ev_icmp_ne 51 dX8_about_44 (by decide) (fun b44 => ?_) (fun b44 => absurd b44 hn9)
        refine ev_iconst (v := nI 1) dX8_about_51 rfl ?_
        refine ev_aload_n (i := 0) dX8_about_52 rfl rfl ?_
        refine ev_getfield dX8_about_53 fX8_28 (by first | omega | decide) (by first | assumption | (simp (disch := omega) only [mu_s, mu_n]; first | assumption | rfl)) (by rfl) ?_
        refine ev_bipush (v := nI 12) dX8_about_56 rfl ?_
        refine ev_iload (i := 4) dX8_about_58 rfl ?_
        refine ev_iaddN dX8_about_60 ?_
        refine ev_ialoadN dX8_about_61 (by first | omega | decide) (by first | assumption | (simp (disch := omega) only [mu_s, mu_n]; first | assumption | rfl)) (by omega) (by decide) ?_
        refine ev_top (i_op hv9) ?_
        refine ev_ishl1 dX8_about_62 (by omega) ?_
        refine ev_iorN dX8_about_63 ?_
        refine ev_istore_n (i := 3) dX8_about_64 rfl (by decide) rfl ?_
        refine ev_incN dX8_about_65 (by rfl) (by decide) rfl ?_
        refine ev_goto 12 dX8_about_68 (by decide) ?_
        exact ih (c + 1) _ (by omega) (by rw [ha, ← oN_t (p := fun c => (p.2.1 c).isSome) (g := fun c => 2 ^ (p.2.1 c).getD 0) (n := c) (by rw [hq]; rfl), hq]; rfl) kk
  refine ev_iconst (v := nI 0) dX8_about_5 rfl ?_
  refine ev_istore_n (i := 2) dX8_about_6 rfl (by decide) rfl ?_
  refine ev_iconst (v := nI 0) dX8_about_7 rfl ?_
  refine ev_istore_n (i := 3) dX8_about_8 rfl (by decide) rfl ?_
  refine ev_iconst (v := nI 0) dX8_about_9 rfl ?_
  refine ev_istore (i := 4) dX8_about_10 (by decide) rfl ?_
  refine lp 12 0 0 rfl rfl ?_
  cases hx : inR x 9 with
  | true =>
    rw [if_pos hx] at hp
    obtain ⟨j, hj, rfl⟩ := inR_of hx (by decide)
    rw [n_cl (by omega)] at hp
    rcases (show j = 0 ∨ j = 1 ∨ j = 2 ∨ j = 3 ∨ j = 4 ∨ j = 5 ∨ j = 6 ∨ j = 7 ∨ j = 8 by omega) with rfl | rfl | rfl | rfl | rfl | rfl | rfl | rfl | rfl
    · skip
      refine ev_iload_n (i := 1) dX8_about_71 rfl rfl ?_
      refine ev_tsw_in (off := 52) 124 dX8_about_72 (by decide) (by decide) (by decide) (by decide) ?_
      refine ev_aload_n (i := 0) dX8_about_124 rfl rfl ?_
      refine ev_getfield dX8_about_125 fX8_64 (by first | omega | decide) (by first | assumption | (simp (disch := omega) only [mu_s, mu_n]; first | assumption | rfl)) (by rfl) ?_
      refine ev_reti dX8_about_128 rfl rfl ?_
      exact hp M0 (ag_rf M0 _ _) h
    · skip
      refine ev_iload_n (i := 1) dX8_about_71 rfl rfl ?_
      refine ev_tsw_in (off := 57) 129 dX8_about_72 (by decide) (by decide) (by decide) (by decide) ?_
      refine ev_aload_n (i := 0) dX8_about_129 rfl rfl ?_
      refine ev_getfield dX8_about_130 fX8_28 (by first | omega | decide) (by first | assumption | (simp (disch := omega) only [mu_s, mu_n]; first | assumption | rfl)) (by rfl) ?_
      refine ev_bipush (v := nI 24) dX8_about_133 rfl ?_
      refine ev_ialoadN dX8_about_135 (by first | omega | decide) (by first | assumption | (simp (disch := omega) only [mu_s, mu_n]; first | assumption | rfl)) (by omega) (by decide) ?_
      refine ev_reti dX8_about_136 rfl rfl ?_
      rw [f4]; exact hp M0 (ag_rf M0 _ _) h
    · skip
      refine ev_iload_n (i := 1) dX8_about_71 rfl rfl ?_
      refine ev_tsw_in (off := 65) 137 dX8_about_72 (by decide) (by decide) (by decide) (by decide) ?_
      refine ev_aload_n (i := 0) dX8_about_137 rfl rfl ?_
      refine ev_getfield dX8_about_138 fX8_28 (by first | omega | decide) (by first | assumption | (simp (disch := omega) only [mu_s, mu_n]; first | assumption | rfl)) (by rfl) ?_
      refine ev_S1 (μ1 := mX8_shown) dX8_about_141 sX8_102 okX8_shown (Nat.le_of_ble_eq_true rfl) (Nat.le_of_ble_eq_true rfl) ?_
      refine c_mShown (by omega) h3 o3 ?_
      refine ev_reti dX8_about_144 rfl rfl ?_
      exact hp M0 (ag_rf M0 _ _) h
    · skip
      refine ev_iload_n (i := 1) dX8_about_71 rfl rfl ?_
      refine ev_tsw_in (off := 73) 145 dX8_about_72 (by decide) (by decide) (by decide) (by decide) ?_
      refine ev_iload_n (i := 2) dX8_about_145 rfl rfl ?_
      refine ev_reti dX8_about_146 rfl rfl ?_
      exact hp M0 (ag_rf M0 _ _) h
    · skip
      refine ev_iload_n (i := 1) dX8_about_71 rfl rfl ?_
      refine ev_tsw_in (off := 75) 147 dX8_about_72 (by decide) (by decide) (by decide) (by decide) ?_
      refine ev_aload_n (i := 0) dX8_about_147 rfl rfl ?_
      refine ev_aload_n (i := 0) dX8_about_148 rfl rfl ?_
      refine ev_getfield dX8_about_149 fX8_28 (by first | omega | decide) (by first | assumption | (simp (disch := omega) only [mu_s, mu_n]; first | assumption | rfl)) (by rfl) ?_
      refine ev_S1 (μ1 := mX8_shown) dX8_about_152 sX8_102 okX8_shown (Nat.le_of_ble_eq_true rfl) (Nat.le_of_ble_eq_true rfl) ?_
      refine c_mShown (by omega) h3 o3 ?_
      refine ev_V1 (μ1 := mX8_readBy) dX8_about_155 sX8_106 okX8_readBy (by first | omega | decide) (by first | assumption | (simp (disch := omega) only [mu_s, mu_n]; first | assumption | rfl)) (Nat.le_of_ble_eq_true rfl) (Nat.le_of_ble_eq_true rfl) ?_
      refine c_mReadBy hO h2 o2 ?_
      refine ev_reti dX8_about_158 rfl rfl ?_
      exact hp M0 (ag_rf M0 _ _) h
    · skip
      refine ev_iload_n (i := 1) dX8_about_71 rfl rfl ?_
      refine ev_tsw_in (off := 87) 159 dX8_about_72 (by decide) (by decide) (by decide) (by decide) ?_
      refine ev_iload_n (i := 3) dX8_about_159 rfl rfl ?_
      refine ev_reti dX8_about_160 rfl rfl ?_
      exact hp M0 (ag_rf M0 _ _) h
    · skip
      refine ev_iload_n (i := 1) dX8_about_71 rfl rfl ?_
      refine ev_tsw_in (off := 89) 161 dX8_about_72 (by decide) (by decide) (by decide) (by decide) ?_
      refine ev_aload_n (i := 0) dX8_about_161 rfl rfl ?_
      refine ev_getfield dX8_about_162 fX8_92 (by first | omega | decide) (by first | assumption | (simp (disch := omega) only [mu_s, mu_n]; first | assumption | rfl)) (by rfl) ?_
      refine ev_reti dX8_about_165 rfl rfl ?_
      exact hp M0 (ag_rf M0 _ _) h
    · skip
      refine ev_iload_n (i := 1) dX8_about_71 rfl rfl ?_
      refine ev_tsw_in (off := 94) 166 dX8_about_72 (by decide) (by decide) (by decide) (by decide) ?_
      refine ev_aload_n (i := 0) dX8_about_166 rfl rfl ?_
      refine ev_getfield dX8_about_167 fX8_110 (by first | omega | decide) (by first | assumption | (simp (disch := omega) only [mu_s, mu_n]; first | assumption | rfl)) (by rfl) ?_
      refine ev_reti dX8_about_170 rfl rfl ?_
      exact hp M0 (ag_rf M0 _ _) h
    · skip
      refine ev_iload_n (i := 1) dX8_about_71 rfl rfl ?_
      refine ev_tsw_in (off := 99) 171 dX8_about_72 (by decide) (by decide) (by decide) (by decide) ?_
      refine ev_aload_n (i := 0) dX8_about_171 rfl rfl ?_
      refine ev_getfield dX8_about_172 fX8_75 (by first | omega | decide) (by first | assumption | (simp (disch := omega) only [mu_s, mu_n]; first | assumption | rfl)) (by rfl) ?_
      refine ev_reti dX8_about_175 rfl rfl ?_
      exact hp M0 (ag_rf M0 _ _) h
  | false =>
    rw [hx, if_neg (by decide)] at hp
    refine ev_iload_n (i := 1) dX8_about_71 rfl rfl ?_
    refine ev_tsw_out 176 dX8_about_72 (by have := inR_out hx; omega) (by decide) ?_
    refine ev_bipush (v := (-2)) dX8_about_176 rfl ?_
    refine ev_reti dX8_about_178 rfl rfl ?_
    exact hp M0 (ag_rf M0 _ _) h
theorem R_tell {x y : Int32} (h : kM M s) (ho : cOk s) (hp : ∀ M1, ag M M1 72 88 → kM M1 (n_tell s x y) → P (some (.int (a_tell s x y))) M1) : Ev 88 7 mX8_tell none 0 [.ref 72, .int x, .int y] [] M P := by
  refine m_thr dX8_tell_0 dX8_tell_1 dX8_tell_2 fwX8_60 h (fun M0 a0 h => ?_)
  replace hp : ∀ M1, ag M0 M1 72 88 → kM M1 (n_tell s x y) → P (some (.int (a_tell s x y))) M1 := fun M1 ha hk => hp M1 (ag_tr (ag_wd a0 : ag M M0 72 88) ha) hk
  clear a0
  obtain ⟨t, l, p, a, sl, v, sd⟩ := s
  obtain ⟨⟨e, x0⟩, hR⟩ := id h
  obtain ⟨h1, h2, h3, h11, h4, h5, h6, h7⟩ : arr M0 73 40 t.1 t.2 ∧ kML M0 l ∧ kG M0 79 p ∧ (∃ q, kG M0 80 q) ∧ kBk M0 a ∧ kKp M0 sl ∧ kMV M0 v ∧ kX M0 := id hR
  obtain ⟨o1, o2, o3, o4, o5, o6, o7⟩ : txOk t ∧ ltOk l ∧ pgOk p ∧ (∀ q ∈ a, pgOk q) ∧ a.length ≤ 14 ∧ (∀ i q, sl i = some q → pgOk q) ∧ ovOk v := ho
  have hO : kO M0 e t.1 l.1 a.length v.1 sd := x0
  have hl6 := o2.1
  have hv6 := o7.1
  unfold kO at x0
  cases hx : inR x l.1 with
  | true =>
    obtain ⟨i, hi, rfl⟩ := inR_of hx (by omega)
    cases hy : inR y l.1 with
    | true =>
      obtain ⟨j, hj, rfl⟩ := inR_of hy (by omega)
      by_cases hij : i = j
      · subst hij
        have e1 : a_tell (t, l, p, a, sl, v, sd) (nI i) (nI i) = (-2) := by unfold a_tell; rw [if_pos ⟨hx, hx⟩, if_pos rfl]
        have e2 : n_tell (t, l, p, a, sl, v, sd) (nI i) (nI i) = (t, l, p, a, sl, v, sd) := by unfold n_tell; rw [if_neg (fun z => z.2.1 rfl)]
        rw [e1, e2] at hp
        refine ev_aload_n (i := 0) dX8_tell_5 rfl rfl ?_
        refine ev_iload_n (i := 1) dX8_tell_6 rfl rfl ?_
        refine ev_V1 (μ1 := mX8_noLetter) dX8_tell_7 sX8_113 okX8_noLetter (by first | omega | decide) (by first | assumption | (simp (disch := omega) only [mu_s, mu_n]; first | assumption | rfl)) (Nat.le_of_ble_eq_true rfl) (Nat.le_of_ble_eq_true rfl) ?_
        refine c_noLetter hO hl6 ?_
        refine ev_top (i_op (congrArg bI ((congrArg Bool.not hx).trans rfl : (!inR (nI i) l.1) = false))) ?_
        refine ev_if_neB 21 dX8_tell_10 (by decide) (fun b10 => by cases b10) (fun b10 => ?_)
        refine ev_aload_n (i := 0) dX8_tell_13 rfl rfl ?_
        refine ev_iload_n (i := 2) dX8_tell_14 rfl rfl ?_
        refine ev_V1 (μ1 := mX8_noLetter) dX8_tell_15 sX8_113 okX8_noLetter (by first | omega | decide) (by first | assumption | (simp (disch := omega) only [mu_s, mu_n]; first | assumption | rfl)) (Nat.le_of_ble_eq_true rfl) (Nat.le_of_ble_eq_true rfl) ?_
        refine c_noLetter hO hl6 ?_
        refine ev_top (i_op (congrArg bI ((congrArg Bool.not hy).trans rfl : (!inR (nI i) l.1) = false))) ?_
        refine ev_if_eqB 23 dX8_tell_18 (by decide) (fun b18 => ?_) (fun b18 => by cases b18)
        refine ev_iload_n (i := 1) dX8_tell_23 rfl rfl ?_
        refine ev_iload_n (i := 2) dX8_tell_24 rfl rfl ?_
        refine ev_icmp_neN 31 dX8_tell_25 (by decide) (by omega) (by omega) (fun b25 => by exfalso; omega) (fun b25 => ?_)
        refine ev_bipush (v := (-2)) dX8_tell_28 rfl ?_
        refine ev_reti dX8_tell_30 rfl rfl ?_
        exact hp M0 (ag_rf M0 _ _) h
      · have hne : ¬ nI i = nI j := fun z => hij ((nI_eq (by omega) (by omega)).mp z)
        have c1 : (nI i).toNatClampNeg = i := n_cl (by omega)
        have c2 : (nI j).toNatClampNeg = j := n_cl (by omega)
        by_cases hv : v.1 < 6
        · have e1 : a_tell (t, l, p, a, sl, v, sd) (nI i) (nI j) = nI (v.1 + 1) := by unfold a_tell; rw [if_pos ⟨hx, hy⟩, if_neg hne, if_pos hv]
          have e2 : n_tell (t, l, p, a, sl, v, sd) (nI i) (nI j) = (t, l, p, a, sl, ovAdd v i j, sd) := by unfold n_tell; rw [if_pos ⟨⟨hx, hy⟩, hne, hv⟩, c1, c2]
          rw [e1, e2] at hp
          obtain ⟨⟨fa, xa, ya⟩, ⟨fb, xb, yb⟩⟩ := id h6
          have eA : ag M0 (mu (mu M0 84 (.inl (0, 6, .inl (upd fa v.1 (nI i))))) 85 (.inl (0, 6, .inl (upd fb v.1 (nI j))))) 84 86 := ag_mu (ag_mu (ag_rf M0 _ _) (by omega) (by omega)) (by omega) (by omega)
          have hA : kMV (mu (mu M0 84 (.inl (0, 6, .inl (upd fa v.1 (nI i))))) 85 (.inl (0, 6, .inl (upd fb v.1 (nI j))))) (ovAdd v i j) := by
            refine ⟨arr_sn ((mu_n (by omega)).trans (mu_s _ _ _)) (fun i hi => ?_) (if_pos rfl), arr_sn (mu_s _ _ _) (fun i hi => ?_) (if_pos rfl)⟩
            · rw [ya i hi]; unfold ovAdd; simp only []; rw [if_neg (by omega)]
            · rw [yb i hi]; unfold ovAdd; simp only []; rw [if_neg (by omega)]
          refine ev_aload_n (i := 0) dX8_tell_5 rfl rfl ?_
          refine ev_iload_n (i := 1) dX8_tell_6 rfl rfl ?_
          refine ev_V1 (μ1 := mX8_noLetter) dX8_tell_7 sX8_113 okX8_noLetter (by first | omega | decide) (by first | assumption | (simp (disch := omega) only [mu_s, mu_n]; first | assumption | rfl)) (Nat.le_of_ble_eq_true rfl) (Nat.le_of_ble_eq_true rfl) ?_
          refine c_noLetter hO hl6 ?_
          refine ev_top (i_op (congrArg bI ((congrArg Bool.not hx).trans rfl : (!inR (nI i) l.1) = false))) ?_
          refine ev_if_neB 21 dX8_tell_10 (by decide) (fun b10 => by cases b10) (fun b10 => ?_)
          refine ev_aload_n (i := 0) dX8_tell_13 rfl rfl ?_
          refine ev_iload_n (i := 2) dX8_tell_14 rfl rfl ?_
          refine ev_V1 (μ1 := mX8_noLetter) dX8_tell_15 sX8_113 okX8_noLetter (by first | omega | decide) (by first | assumption | (simp (disch := omega) only [mu_s, mu_n]; first | assumption | rfl)) (Nat.le_of_ble_eq_true rfl) (Nat.le_of_ble_eq_true rfl) ?_
          refine c_noLetter hO hl6 ?_
          refine ev_top (i_op (congrArg bI ((congrArg Bool.not hy).trans rfl : (!inR (nI j) l.1) = false))) ?_
          refine ev_if_eqB 23 dX8_tell_18 (by decide) (fun b18 => ?_) (fun b18 => by cases b18)
          refine ev_iload_n (i := 1) dX8_tell_23 rfl rfl ?_
          refine ev_iload_n (i := 2) dX8_tell_24 rfl rfl ?_
          refine ev_icmp_neN 31 dX8_tell_25 (by decide) (by omega) (by omega) (fun b25 => ?_) (fun b25 => by exfalso; omega)
          refine ev_aload_n (i := 0) dX8_tell_31 rfl rfl ?_
          refine ev_getfield dX8_tell_32 fX8_110 (by first | omega | decide) (by first | assumption | (simp (disch := omega) only [mu_s, mu_n]; first | assumption | rfl)) (by rfl) ?_
          refine ev_bipush (v := nI 6) dX8_tell_35 rfl ?_
          refine ev_icmp_neN 43 dX8_tell_37 (by decide) (by omega) (by omega) (fun b37 => ?_) (fun b37 => by exfalso; omega)
          refine ev_aload_n (i := 0) dX8_tell_43 rfl rfl ?_
          refine ev_getfield dX8_tell_44 fX8_44 (by first | omega | decide) (by first | assumption | (simp (disch := omega) only [mu_s, mu_n]; first | assumption | rfl)) (by rfl) ?_
          refine ev_aload_n (i := 0) dX8_tell_47 rfl rfl ?_
          refine ev_getfield dX8_tell_48 fX8_110 (by first | omega | decide) (by first | assumption | (simp (disch := omega) only [mu_s, mu_n]; first | assumption | rfl)) (by rfl) ?_
          refine ev_iload_n (i := 1) dX8_tell_51 rfl rfl ?_
          refine ev_iastoreN dX8_tell_52 (by first | omega | decide) (by first | assumption | (simp (disch := omega) only [mu_s, mu_n]; first | assumption | rfl)) (by omega) (by decide) ?_
          refine ev_aload_n (i := 0) dX8_tell_53 rfl rfl ?_
          refine ev_getfield dX8_tell_54 fX8_47 (by first | omega | decide) (by first | assumption | (simp (disch := omega) only [mu_s, mu_n]; first | assumption | rfl)) (by rfl) ?_
          refine ev_aload_n (i := 0) dX8_tell_57 rfl rfl ?_
          refine ev_getfield dX8_tell_58 fX8_110 (by first | omega | decide) (by first | assumption | (simp (disch := omega) only [mu_s, mu_n]; first | assumption | rfl)) (by rfl) ?_
          refine ev_iload_n (i := 2) dX8_tell_61 rfl rfl ?_
          refine ev_iastoreN dX8_tell_62 (by first | omega | decide) (by first | assumption | (simp (disch := omega) only [mu_s, mu_n]; first | assumption | rfl)) (by omega) (by decide) ?_
          refine ev_aload_n (i := 0) dX8_tell_63 rfl rfl ?_
          refine ev_dup dX8_tell_64 rfl ?_
          refine ev_getfield dX8_tell_65 fX8_110 (by first | omega | decide) (by first | assumption | (simp (disch := omega) only [mu_s, mu_n]; first | assumption | rfl)) (by rfl) ?_
          refine ev_iconst (v := nI 1) dX8_tell_68 rfl ?_
          refine ev_iaddN dX8_tell_69 ?_
          refine ev_putI dX8_tell_70 fwX8_110 (by first | omega | decide) (by first | assumption | (simp (disch := omega) only [mu_s, mu_n]; first | assumption | rfl)) (Nat.le_of_ble_eq_true rfl) ?_
          refine ev_aload_n (i := 0) dX8_tell_73 rfl rfl ?_
          refine ev_getfield dX8_tell_74 fX8_110 (by first | omega | decide) (by first | assumption | (simp (disch := omega) only [mu_s, mu_n]; first | assumption | rfl)) (by rfl) ?_
          refine ev_reti dX8_tell_77 rfl rfl ?_
          exact hp _ (ag_mu (ag_wd eA) (by omega) (by omega)) ⟨⟨e, mu_s _ _ _⟩, kR_ob (kR_mv (v1 := ovAdd v i j) hR eA hA) (ag_mu (ag_rf _ _ _) (by omega) (by omega))⟩
        · have e1 : a_tell (t, l, p, a, sl, v, sd) (nI i) (nI j) = (-4) := by unfold a_tell; rw [if_pos ⟨hx, hy⟩, if_neg hne, if_neg hv]
          have e2 : n_tell (t, l, p, a, sl, v, sd) (nI i) (nI j) = (t, l, p, a, sl, v, sd) := by unfold n_tell; rw [if_neg (fun z => hv z.2.2)]
          rw [e1, e2] at hp
          refine ev_aload_n (i := 0) dX8_tell_5 rfl rfl ?_
          refine ev_iload_n (i := 1) dX8_tell_6 rfl rfl ?_
          refine ev_V1 (μ1 := mX8_noLetter) dX8_tell_7 sX8_113 okX8_noLetter (by first | omega | decide) (by first | assumption | (simp (disch := omega) only [mu_s, mu_n]; first | assumption | rfl)) (Nat.le_of_ble_eq_true rfl) (Nat.le_of_ble_eq_true rfl) ?_
          refine c_noLetter hO hl6 ?_
          refine ev_top (i_op (congrArg bI ((congrArg Bool.not hx).trans rfl : (!inR (nI i) l.1) = false))) ?_
          refine ev_if_neB 21 dX8_tell_10 (by decide) (fun b10 => by cases b10) (fun b10 => ?_)
          refine ev_aload_n (i := 0) dX8_tell_13 rfl rfl ?_
          refine ev_iload_n (i := 2) dX8_tell_14 rfl rfl ?_
          refine ev_V1 (μ1 := mX8_noLetter) dX8_tell_15 sX8_113 okX8_noLetter (by first | omega | decide) (by first | assumption | (simp (disch := omega) only [mu_s, mu_n]; first | assumption | rfl)) (Nat.le_of_ble_eq_true rfl) (Nat.le_of_ble_eq_true rfl) ?_
          refine c_noLetter hO hl6 ?_
          refine ev_top (i_op (congrArg bI ((congrArg Bool.not hy).trans rfl : (!inR (nI j) l.1) = false))) ?_
          refine ev_if_eqB 23 dX8_tell_18 (by decide) (fun b18 => ?_) (fun b18 => by cases b18)
          refine ev_iload_n (i := 1) dX8_tell_23 rfl rfl ?_
          refine ev_iload_n (i := 2) dX8_tell_24 rfl rfl ?_
          refine ev_icmp_neN 31 dX8_tell_25 (by decide) (by omega) (by omega) (fun b25 => ?_) (fun b25 => by exfalso; omega)
          refine ev_aload_n (i := 0) dX8_tell_31 rfl rfl ?_
          refine ev_getfield dX8_tell_32 fX8_110 (by first | omega | decide) (by first | assumption | (simp (disch := omega) only [mu_s, mu_n]; first | assumption | rfl)) (by rfl) ?_
          refine ev_bipush (v := nI 6) dX8_tell_35 rfl ?_
          refine ev_icmp_neN 43 dX8_tell_37 (by decide) (by omega) (by omega) (fun b37 => by exfalso; omega) (fun b37 => ?_)
          refine ev_bipush (v := (-4)) dX8_tell_40 rfl ?_
          refine ev_reti dX8_tell_42 rfl rfl ?_
          exact hp M0 (ag_rf M0 _ _) h
    | false =>
      have e1 : a_tell (t, l, p, a, sl, v, sd) (nI i) y = (-1) := by unfold a_tell; rw [if_neg (fun z => by rw [hy] at z; cases z.2)]
      have e2 : n_tell (t, l, p, a, sl, v, sd) (nI i) y = (t, l, p, a, sl, v, sd) := by unfold n_tell; rw [if_neg (fun z => by rw [hy] at z; cases z.1.2)]
      rw [e1, e2] at hp
      refine ev_aload_n (i := 0) dX8_tell_5 rfl rfl ?_
      refine ev_iload_n (i := 1) dX8_tell_6 rfl rfl ?_
      refine ev_V1 (μ1 := mX8_noLetter) dX8_tell_7 sX8_113 okX8_noLetter (by first | omega | decide) (by first | assumption | (simp (disch := omega) only [mu_s, mu_n]; first | assumption | rfl)) (Nat.le_of_ble_eq_true rfl) (Nat.le_of_ble_eq_true rfl) ?_
      refine c_noLetter hO hl6 ?_
      refine ev_top (i_op (congrArg bI ((congrArg Bool.not hx).trans rfl : (!inR (nI i) l.1) = false))) ?_
      refine ev_if_neB 21 dX8_tell_10 (by decide) (fun b10 => by cases b10) (fun b10 => ?_)
      refine ev_aload_n (i := 0) dX8_tell_13 rfl rfl ?_
      refine ev_iload_n (i := 2) dX8_tell_14 rfl rfl ?_
      refine ev_V1 (μ1 := mX8_noLetter) dX8_tell_15 sX8_113 okX8_noLetter (by first | omega | decide) (by first | assumption | (simp (disch := omega) only [mu_s, mu_n]; first | assumption | rfl)) (Nat.le_of_ble_eq_true rfl) (Nat.le_of_ble_eq_true rfl) ?_
      refine c_noLetter hO hl6 ?_
      refine ev_top (i_op (congrArg bI ((congrArg Bool.not hy).trans rfl : (!inR y l.1) = true))) ?_
      refine ev_if_eqB 23 dX8_tell_18 (by decide) (fun b18 => by cases b18) (fun b18 => ?_)
      refine ev_iconst (v := (-1)) dX8_tell_21 rfl ?_
      refine ev_reti dX8_tell_22 rfl rfl ?_
      exact hp M0 (ag_rf M0 _ _) h
  | false =>
    have e1 : a_tell (t, l, p, a, sl, v, sd) x y = (-1) := by unfold a_tell; rw [if_neg (fun z => by rw [hx] at z; cases z.1)]
    have e2 : n_tell (t, l, p, a, sl, v, sd) x y = (t, l, p, a, sl, v, sd) := by unfold n_tell; rw [if_neg (fun z => by rw [hx] at z; cases z.1.1)]
    rw [e1, e2] at hp
    refine ev_aload_n (i := 0) dX8_tell_5 rfl rfl ?_
    refine ev_iload_n (i := 1) dX8_tell_6 rfl rfl ?_
    refine ev_V1 (μ1 := mX8_noLetter) dX8_tell_7 sX8_113 okX8_noLetter (by first | omega | decide) (by first | assumption | (simp (disch := omega) only [mu_s, mu_n]; first | assumption | rfl)) (Nat.le_of_ble_eq_true rfl) (Nat.le_of_ble_eq_true rfl) ?_
    refine c_noLetter hO hl6 ?_
    refine ev_top (i_op (congrArg bI ((congrArg Bool.not hx).trans rfl : (!inR x l.1) = true))) ?_
    refine ev_if_neB 21 dX8_tell_10 (by decide) (fun b10 => ?_) (fun b10 => by cases b10)
    refine ev_iconst (v := (-1)) dX8_tell_21 rfl ?_
    refine ev_reti dX8_tell_22 rfl rfl ?_
    exact hp M0 (ag_rf M0 _ _) h
theorem kp_mk {M1 : mM} {k : Nat} {f f5 b : Nat → Int32} {sl : Nat → Option pg} {q : pg} (y2 : M1 82 = .inl (0, 50, .inl f5)) (y3 : M1 83 = .inl (1, 2, .inl (upd b k (nI 1)))) (f3 : ∀ i, i < 2 → b i = bI (sl i).isSome) (f4 : ∀ i, i < 2 → ∀ p, sl i = some p → gF (fun j => f (25 * i + j)) p) (q1 : ∀ i, i < 25 * k ∨ 25 * k + 25 ≤ i → f5 i = f i) (g : gF (fun j => f5 (25 * k + j)) q) : kKp M1 (fun j => if j = k then some q else sl j) := by
  refine ⟨f5, _, y2, y3, fun i hi => ?_, fun i hi r hr => ?_⟩
  · by_cases z : i = k
    · rw [z, upd_a rfl]; show nI 1 = bI (if k = k then some q else sl k).isSome; rw [if_pos rfl]; rfl
    · rw [upd_b z, f3 i hi]; show _ = bI (if i = k then some q else sl i).isSome; rw [if_neg z]
  · by_cases z : i = k
    · have hr : (if i = k then some q else sl i) = some r := hr
      rw [if_pos z] at hr
      cases hr
      rw [z]
      exact g
    · have hr : (if i = k then some q else sl i) = some r := hr
      rw [if_neg z] at hr
      exact gF_cong (f4 i hi r hr) (fun j hj => (q1 _ (by omega)).symm)

theorem R_keep {x : Int32} (h : kM M s) (ho : cOk s) (hp : ∀ M1, ag M M1 72 88 → kM M1 (n_keep s x) → P (some (.int (a_keep s x))) M1) : Ev 88 7 mX8_keep none 0 [.ref 72, .int x, .null] [] M P := by
  refine m_thr dX8_keep_0 dX8_keep_1 dX8_keep_2 fwX8_60 h (fun M0 a0 h => ?_)
  replace hp : ∀ M1, ag M0 M1 72 88 → kM M1 (n_keep s x) → P (some (.int (a_keep s x))) M1 := fun M1 ha hk => hp M1 (ag_tr (ag_wd a0 : ag M M0 72 88) ha) hk
  clear a0
  obtain ⟨t, l, p, a, sl, v, sd⟩ := s
  obtain ⟨⟨e, x0⟩, hR⟩ := id h
  obtain ⟨h1, h2, h3, h11, h4, h5, h6, h7⟩ : arr M0 73 40 t.1 t.2 ∧ kML M0 l ∧ kG M0 79 p ∧ (∃ q, kG M0 80 q) ∧ kBk M0 a ∧ kKp M0 sl ∧ kMV M0 v ∧ kX M0 := id hR
  obtain ⟨o1, o2, o3, o4, o5, o6, o7⟩ : txOk t ∧ ltOk l ∧ pgOk p ∧ (∀ q ∈ a, pgOk q) ∧ a.length ≤ 14 ∧ (∀ i q, sl i = some q → pgOk q) ∧ ovOk v := ho
  have hO : kO M0 e t.1 l.1 a.length v.1 sd := x0
  have hl6 := o2.1
  have hv6 := o7.1
  unfold kO at x0
  obtain ⟨g, g1, g2⟩ := id h3
  obtain ⟨f, b, f1, f2, f3, f4⟩ := id h5
  cases hx : inR x 2 with
  | true =>
    obtain ⟨k, hk, rfl⟩ := inR_of hx (by decide)
    have e1 : a_keep (t, l, p, a, sl, v, sd) (nI k) = p.2.2 := by unfold a_keep; rw [if_pos hx]
    have e2 : n_keep (t, l, p, a, sl, v, sd) (nI k) = (t, l, p, a, (fun j => if j = k then some p else sl j), v, sd) := by unfold n_keep; rw [if_pos hx, n_cl (by omega)]
    rw [e1, e2] at hp
    have lp : ∀ (j c : Nat) (M1 : mM) (f5 : Nat → Int32) (q : pg), c + j = 25 → ag M0 M1 72 88 → kO M1 e t.1 l.1 a.length v.1 sd → kR M1 (t, l, p, a, (fun j => if j = k then some q else sl j), v, sd) → M1 79 = .inl (0, 25, .inl g) → M1 82 = .inl (0, 50, .inl f5) → M1 83 = .inl (1, 2, .inl (upd b k (nI 1))) → (∀ i, i < 25 * k ∨ 25 * k + 25 ≤ i → f5 i = f i) → (∀ i, i < c → f5 (25 * k + i) = g i) → Ev 88 7 mX8_keep none 26 [.ref 72, .int (nI k), .int (nI c)] [] M1 P := by
      intro j
      induction j with
      | zero =>
        intro c M1 f5 q hc ha yO yR y1 y2 y3 q1 q2
        obtain rfl : c = 25 := by omega
        have z0 := yO
        unfold kO at z0
        refine ev_iload_n (i := 2) dX8_keep_26 rfl rfl ?_
        refine ev_bipush (v := nI 25) dX8_keep_27 rfl ?_
        refine ev_icmp_geN 55 dX8_keep_29 (by decide) (by omega) (by omega) (fun b29 => ?_) (fun b29 => by exfalso; omega)
        refine ev_aload_n (i := 0) dX8_keep_55 rfl rfl ?_
        refine ev_getfield dX8_keep_56 fX8_28 (by first | omega | decide) (by first | assumption | (simp (disch := omega) only [mu_s, mu_n]; first | assumption | rfl)) (by rfl) ?_
        refine ev_bipush (v := nI 24) dX8_keep_59 rfl ?_
        refine ev_ialoadN dX8_keep_61 (by first | omega | decide) (by first | assumption | (simp (disch := omega) only [mu_s, mu_n]; first | assumption | rfl)) (by omega) (by decide) ?_
        refine ev_reti dX8_keep_62 rfl rfl ?_
        rw [g2.2.2]
        exact hp M1 ha ⟨⟨e, yO⟩, kR_kp yR (ag_rf M1 _ _) (kp_mk y2 y3 f3 f4 q1 (gF_cong g2 (fun j hj => (q2 j hj).symm)))⟩
      | succ j ih =>
        intro c M1 f5 q hc ha yO yR y1 y2 y3 q1 q2
        have z0 := yO
        unfold kO at z0
        have eA : ag M1 (mu M1 82 (.inl (0, 50, .inl (upd f5 (25 * k + c) (g c))))) 82 84 := ag_mu (ag_rf M1 _ _) (by omega) (by omega)
        obtain ⟨q3, hq3⟩ := gF_any (fun j => upd f5 (25 * k + c) (g c) (25 * k + j))
        have q4 : ∀ i, i < 25 * k ∨ 25 * k + 25 ≤ i → upd f5 (25 * k + c) (g c) i = f i := fun i hi => (upd_b (by omega)).trans (q1 i hi)
        refine ev_iload_n (i := 2) dX8_keep_26 rfl rfl ?_
        refine ev_bipush (v := nI 25) dX8_keep_27 rfl ?_
        refine ev_icmp_geN 55 dX8_keep_29 (by decide) (by omega) (by omega) (fun b29 => by exfalso; omega) (fun b29 => ?_)
        refine ev_aload_n (i := 0) dX8_keep_32 rfl rfl ?_
        refine ev_getfield dX8_keep_33 fX8_37 (by first | omega | decide) (by first | assumption | (simp (disch := omega) only [mu_s, mu_n]; first | assumption | rfl)) (by rfl) ?_
        refine ev_bipush (v := nI 25) dX8_keep_36 rfl ?_
        refine ev_iload_n (i := 1) dX8_keep_38 rfl rfl ?_
        refine ev_imulN dX8_keep_39 ?_
        refine ev_iload_n (i := 2) dX8_keep_40 rfl rfl ?_
        refine ev_iaddN dX8_keep_41 ?_
        refine ev_aload_n (i := 0) dX8_keep_42 rfl rfl ?_
        refine ev_getfield dX8_keep_43 fX8_28 (by first | omega | decide) (by first | assumption | (simp (disch := omega) only [mu_s, mu_n]; first | assumption | rfl)) (by rfl) ?_
        refine ev_iload_n (i := 2) dX8_keep_46 rfl rfl ?_
        refine ev_ialoadN dX8_keep_47 (by first | omega | decide) (by first | assumption | (simp (disch := omega) only [mu_s, mu_n]; first | assumption | rfl)) (by omega) (by decide) ?_
        refine ev_iastoreN dX8_keep_48 (by first | omega | decide) (by first | assumption | (simp (disch := omega) only [mu_s, mu_n]; first | assumption | rfl)) (by omega) (by decide) ?_
        refine ev_incN dX8_keep_49 (by rfl) (by decide) rfl ?_
        refine ev_goto 26 dX8_keep_52 (by decide) ?_
        exact ih (c + 1) _ _ q3 (by omega) (ag_tr ha eA) (kO_ag yO eA (by omega)) (kR_kp yR eA (kp_mk (mu_s _ _ _) ((mu_n (by omega)).trans y3) f3 f4 q4 hq3)) ((mu_n (by omega)).trans y1) (mu_s _ _ _) ((mu_n (by omega)).trans y3) q4 (fun i hi => by
          by_cases z : i = c
          · rw [z]; exact upd_a rfl
          · exact (upd_b (by omega)).trans (q2 i (by omega)))
    have eA : ag M0 (mu M0 83 (.inl (1, 2, .inl (upd b k (nI 1))))) 82 84 := ag_mu (ag_rf M0 _ _) (by omega) (by omega)
    obtain ⟨q3, hq3⟩ := gF_any (fun j => f (25 * k + j))
    refine ev_iload_n (i := 1) dX8_keep_5 rfl rfl ?_
    refine ev_i2l dX8_keep_6 rfl ?_
    refine ev_lconst dX8_keep_7 rfl ?_
    refine ev_lconst dX8_keep_8 rfl ?_
    refine ev_S3 (μ1 := mX8_in) dX8_keep_9 sX8_67 okX8_in (Nat.le_of_ble_eq_true rfl) (Nat.le_of_ble_eq_true rfl) ?_
    refine c_in ?_
    refine ev_top (i_op (congrArg bI ((in_r (n := 2) rfl).trans hx))) ?_
    refine ev_if_neB 17 dX8_keep_12 (by decide) (fun b12 => ?_) (fun b12 => by cases b12)
    refine ev_aload_n (i := 0) dX8_keep_17 rfl rfl ?_
    refine ev_getfield dX8_keep_18 fX8_40 (by first | omega | decide) (by first | assumption | (simp (disch := omega) only [mu_s, mu_n]; first | assumption | rfl)) (by rfl) ?_
    refine ev_iload_n (i := 1) dX8_keep_21 rfl rfl ?_
    refine ev_iconst (v := nI 1) dX8_keep_22 rfl ?_
    refine ev_bastoreN dX8_keep_23 (by first | omega | decide) (by first | assumption | (simp (disch := omega) only [mu_s, mu_n]; first | assumption | rfl)) (by omega) (by decide) ?_
    refine ev_mem (M1 := mu M0 83 (.inl (1, 2, .inl (upd b k (nI 1))))) rfl ?_
    refine ev_iconst (v := nI 0) dX8_keep_24 rfl ?_
    refine ev_istore_n (i := 2) dX8_keep_25 rfl (by decide) rfl ?_
    exact lp 25 0 _ f q3 rfl (ag_wd eA) (kO_ag hO eA (by omega)) (kR_kp hR eA (kp_mk ((mu_n (by omega)).trans f1) (mu_s _ _ _) f3 f4 (fun _ _ => rfl) hq3)) ((mu_n (by omega)).trans g1) ((mu_n (by omega)).trans f1) (mu_s _ _ _) (fun _ _ => rfl) (fun i hi => absurd hi (Nat.not_lt_zero i))
  | false =>
    have e1 : a_keep (t, l, p, a, sl, v, sd) x = (-1) := by unfold a_keep; rw [hx]; rfl
    have e2 : n_keep (t, l, p, a, sl, v, sd) x = (t, l, p, a, sl, v, sd) := by unfold n_keep; rw [hx]; rfl
    rw [e1, e2] at hp
    refine ev_iload_n (i := 1) dX8_keep_5 rfl rfl ?_
    refine ev_i2l dX8_keep_6 rfl ?_
    refine ev_lconst dX8_keep_7 rfl ?_
    refine ev_lconst dX8_keep_8 rfl ?_
    refine ev_S3 (μ1 := mX8_in) dX8_keep_9 sX8_67 okX8_in (Nat.le_of_ble_eq_true rfl) (Nat.le_of_ble_eq_true rfl) ?_
    refine c_in ?_
    refine ev_top (i_op (congrArg bI ((in_r (n := 2) rfl).trans hx))) ?_
    refine ev_if_neB 17 dX8_keep_12 (by decide) (fun b12 => by cases b12) (fun b12 => ?_)
    refine ev_iconst (v := (-1)) dX8_keep_15 rfl ?_
    refine ev_reti dX8_keep_16 rfl rfl ?_
    exact hp M0 (ag_rf M0 _ _) h
theorem R_again {x : Int32} (h : kM M s) (ho : cOk s) (hp : ∀ M1, ag M M1 72 88 → kM M1 (n_again s x) → P (some (.int (a_again s x))) M1) : Ev 88 7 mX8_again none 0 [.ref 72, .int x, .null] [] M P := by
  refine m_thr dX8_again_0 dX8_again_1 dX8_again_2 fwX8_60 h (fun M0 a0 h => ?_)
  replace hp : ∀ M1, ag M0 M1 72 88 → kM M1 (n_again s x) → P (some (.int (a_again s x))) M1 := fun M1 ha hk => hp M1 (ag_tr (ag_wd a0 : ag M M0 72 88) ha) hk
  clear a0
  obtain ⟨t, l, p, a, sl, v, sd⟩ := s
  obtain ⟨⟨e, x0⟩, hR⟩ := id h
  obtain ⟨h1, h2, h3, h11, h4, h5, h6, h7⟩ : arr M0 73 40 t.1 t.2 ∧ kML M0 l ∧ kG M0 79 p ∧ (∃ q, kG M0 80 q) ∧ kBk M0 a ∧ kKp M0 sl ∧ kMV M0 v ∧ kX M0 := id hR
  obtain ⟨o1, o2, o3, o4, o5, o6, o7⟩ : txOk t ∧ ltOk l ∧ pgOk p ∧ (∀ q ∈ a, pgOk q) ∧ a.length ≤ 14 ∧ (∀ i q, sl i = some q → pgOk q) ∧ ovOk v := ho
  have hO : kO M0 e t.1 l.1 a.length v.1 sd := x0
  have hl6 := o2.1
  have hv6 := o7.1
  unfold kO at x0
  obtain ⟨g, g1, g2⟩ := id h3
  obtain ⟨f, b, f1, f2, f3, f4⟩ := id h5
  cases hx : inR x 2 with
  | true =>
    obtain ⟨k, hk, rfl⟩ := inR_of hx (by decide)
    cases hs : sl k with
    | none =>
      have e1 : a_again (t, l, p, a, sl, v, sd) (nI k) = (-3) := by unfold a_again; rw [if_pos hx, n_cl (by omega)]; show (match sl k with | none => (-3) | some p => p.2.2) = _; rw [hs]
      have e2 : n_again (t, l, p, a, sl, v, sd) (nI k) = (t, l, p, a, sl, v, sd) := by unfold n_again; rw [if_pos hx, n_cl (by omega)]; show (match sl k with | none => (t, l, p, a, sl, v, sd) | some p => _) = _; rw [hs]
      rw [e1, e2] at hp
      have hb : b k = bI false := by rw [f3 k hk, hs]; rfl
      refine ev_iload_n (i := 1) dX8_again_5 rfl rfl ?_
      refine ev_i2l dX8_again_6 rfl ?_
      refine ev_lconst dX8_again_7 rfl ?_
      refine ev_lconst dX8_again_8 rfl ?_
      refine ev_S3 (μ1 := mX8_in) dX8_again_9 sX8_67 okX8_in (Nat.le_of_ble_eq_true rfl) (Nat.le_of_ble_eq_true rfl) ?_
      refine c_in ?_
      refine ev_top (i_op (congrArg bI ((in_r (n := 2) rfl).trans hx))) ?_
      refine ev_if_neB 17 dX8_again_12 (by decide) (fun b12 => ?_) (fun b12 => by cases b12)
      refine ev_aload_n (i := 0) dX8_again_17 rfl rfl ?_
      refine ev_getfield dX8_again_18 fX8_40 (by first | omega | decide) (by first | assumption | (simp (disch := omega) only [mu_s, mu_n]; first | assumption | rfl)) (by rfl) ?_
      refine ev_iload_n (i := 1) dX8_again_21 rfl rfl ?_
      refine ev_baloadN dX8_again_22 (by first | omega | decide) (by first | assumption | (simp (disch := omega) only [mu_s, mu_n]; first | assumption | rfl)) (by omega) (by decide) ?_
      refine ev_top (i_op hb) ?_
      refine ev_if_neB 29 dX8_again_23 (by decide) (fun b23 => by cases b23) (fun b23 => ?_)
      refine ev_bipush (v := (-3)) dX8_again_26 rfl ?_
      refine ev_reti dX8_again_28 rfl rfl ?_
      exact hp M0 (ag_rf M0 _ _) h
    | some q =>
      have e1 : a_again (t, l, p, a, sl, v, sd) (nI k) = q.2.2 := by unfold a_again; rw [if_pos hx, n_cl (by omega)]; show (match sl k with | none => (-3) | some p => p.2.2) = _; rw [hs]
      have e2 : n_again (t, l, p, a, sl, v, sd) (nI k) = (t, l, q, [], sl, v, sd) := by unfold n_again; rw [if_pos hx, n_cl (by omega)]; show (match sl k with | none => (t, l, p, a, sl, v, sd) | some p => (t, l, p, [], sl, v, sd)) = _; rw [hs]
      rw [e1, e2] at hp
      have hb : b k = bI true := by rw [f3 k hk, hs]; rfl
      have hq := f4 k hk q hs
      have lp : ∀ (j c : Nat) (M1 : mM) (g : Nat → Int32) (p1 : pg), c + j = 25 → ag M0 M1 72 88 → kO M1 e t.1 l.1 a.length v.1 sd → kR M1 (t, l, p1, a, sl, v, sd) → M1 79 = .inl (0, 25, .inl g) → M1 82 = .inl (0, 50, .inl f) → (∀ i, i < c → f (25 * k + i) = g i) → Ev 88 7 mX8_again none 31 [.ref 72, .int (nI k), .int (nI c)] [] M1 P := by
        intro j
        induction j with
        | zero =>
          intro c M1 g p1 hc ha yO yR y1 y2 e1
          obtain rfl : c = 25 := by omega
          have z0 := yO
          unfold kO at z0
          have g3 : gF g q := gF_cong hq (fun j hj => e1 j hj)
          refine ev_iload_n (i := 2) dX8_again_31 rfl rfl ?_
          refine ev_bipush (v := nI 25) dX8_again_32 rfl ?_
          refine ev_icmp_geN 60 dX8_again_34 (by decide) (by omega) (by omega) (fun b34 => ?_) (fun b34 => by exfalso; omega)
          refine ev_aload_n (i := 0) dX8_again_60 rfl rfl ?_
          refine ev_iconst (v := nI 0) dX8_again_61 rfl ?_
          refine ev_putI dX8_again_62 fwX8_92 (by first | omega | decide) (by first | assumption | (simp (disch := omega) only [mu_s, mu_n]; first | assumption | rfl)) (Nat.le_of_ble_eq_true rfl) ?_
          refine ev_aload_n (i := 0) dX8_again_65 rfl rfl ?_
          refine ev_getfield dX8_again_66 fX8_28 (by first | omega | decide) (by first | assumption | (simp (disch := omega) only [mu_s, mu_n]; first | assumption | rfl)) (by rfl) ?_
          refine ev_bipush (v := nI 24) dX8_again_69 rfl ?_
          refine ev_ialoadN dX8_again_71 (by first | omega | decide) (by first | assumption | (simp (disch := omega) only [mu_s, mu_n]; first | assumption | rfl)) (by omega) (by decide) ?_
          refine ev_reti dX8_again_72 rfl rfl ?_
          rw [g3.2.2]
          exact hp _ (ag_mu ha (by omega) (by omega)) ⟨⟨e, mu_s _ _ _⟩, kR_ob (kR_bk (a1 := []) (kR_pg yR (ag_rf M1 _ _) ⟨g, y1, g3⟩) (ag_rf M1 _ _) (by obtain ⟨f7, f8, -⟩ := yR.2.2.2.2.1; exact ⟨f7, f8, fun i r hr => by cases hr⟩)) (ag_mu (ag_rf M1 _ _) (by omega) (by omega))⟩
        | succ j ih =>
          intro c M1 g p1 hc ha yO yR y1 y2 e1
          have z0 := yO
          unfold kO at z0
          have eA : ag M1 (mu M1 79 (.inl (0, 25, .inl (upd g c (f (25 * k + c)))))) 79 80 := ag_mu (ag_rf M1 _ _) (by omega) (by omega)
          obtain ⟨p2, hp2⟩ := gF_any (upd g c (f (25 * k + c)))
          refine ev_iload_n (i := 2) dX8_again_31 rfl rfl ?_
          refine ev_bipush (v := nI 25) dX8_again_32 rfl ?_
          refine ev_icmp_geN 60 dX8_again_34 (by decide) (by omega) (by omega) (fun b34 => by exfalso; omega) (fun b34 => ?_)
          refine ev_aload_n (i := 0) dX8_again_37 rfl rfl ?_
          refine ev_getfield dX8_again_38 fX8_28 (by first | omega | decide) (by first | assumption | (simp (disch := omega) only [mu_s, mu_n]; first | assumption | rfl)) (by rfl) ?_
          refine ev_iload_n (i := 2) dX8_again_41 rfl rfl ?_
          refine ev_aload_n (i := 0) dX8_again_42 rfl rfl ?_
          refine ev_getfield dX8_again_43 fX8_37 (by first | omega | decide) (by first | assumption | (simp (disch := omega) only [mu_s, mu_n]; first | assumption | rfl)) (by rfl) ?_
          refine ev_bipush (v := nI 25) dX8_again_46 rfl ?_
          refine ev_iload_n (i := 1) dX8_again_48 rfl rfl ?_
          refine ev_imulN dX8_again_49 ?_
          refine ev_iload_n (i := 2) dX8_again_50 rfl rfl ?_
          refine ev_iaddN dX8_again_51 ?_
          refine ev_ialoadN dX8_again_52 (by first | omega | decide) (by first | assumption | (simp (disch := omega) only [mu_s, mu_n]; first | assumption | rfl)) (by omega) (by decide) ?_
          refine ev_iastoreN dX8_again_53 (by first | omega | decide) (by first | assumption | (simp (disch := omega) only [mu_s, mu_n]; first | assumption | rfl)) (by omega) (by decide) ?_
          refine ev_incN dX8_again_54 (by rfl) (by decide) rfl ?_
          refine ev_goto 31 dX8_again_57 (by decide) ?_
          exact ih (c + 1) _ _ p2 (by omega) (ag_tr ha eA) (kO_ag yO eA (by omega)) (kR_pg yR eA ⟨_, mu_s _ _ _, hp2⟩) (mu_s _ _ _) ((mu_n (by omega)).trans y2) (fun i hi => by
            by_cases z : i = c
            · rw [z]; exact (upd_a rfl).symm
            · exact (e1 i (by omega)).trans (upd_b z).symm)
      refine ev_iload_n (i := 1) dX8_again_5 rfl rfl ?_
      refine ev_i2l dX8_again_6 rfl ?_
      refine ev_lconst dX8_again_7 rfl ?_
      refine ev_lconst dX8_again_8 rfl ?_
      refine ev_S3 (μ1 := mX8_in) dX8_again_9 sX8_67 okX8_in (Nat.le_of_ble_eq_true rfl) (Nat.le_of_ble_eq_true rfl) ?_
      refine c_in ?_
      refine ev_top (i_op (congrArg bI ((in_r (n := 2) rfl).trans hx))) ?_
      refine ev_if_neB 17 dX8_again_12 (by decide) (fun b12 => ?_) (fun b12 => by cases b12)
      refine ev_aload_n (i := 0) dX8_again_17 rfl rfl ?_
      refine ev_getfield dX8_again_18 fX8_40 (by first | omega | decide) (by first | assumption | (simp (disch := omega) only [mu_s, mu_n]; first | assumption | rfl)) (by rfl) ?_
      refine ev_iload_n (i := 1) dX8_again_21 rfl rfl ?_
      refine ev_baloadN dX8_again_22 (by first | omega | decide) (by first | assumption | (simp (disch := omega) only [mu_s, mu_n]; first | assumption | rfl)) (by omega) (by decide) ?_
      refine ev_top (i_op hb) ?_
      refine ev_if_neB 29 dX8_again_23 (by decide) (fun b23 => ?_) (fun b23 => by cases b23)
      refine ev_iconst (v := nI 0) dX8_again_29 rfl ?_
      refine ev_istore_n (i := 2) dX8_again_30 rfl (by decide) rfl ?_
      exact lp 25 0 M0 g p rfl (ag_rf M0 _ _) hO hR g1 f1 (fun i hi => absurd hi (Nat.not_lt_zero i))
  | false =>
    have e1 : a_again (t, l, p, a, sl, v, sd) x = (-1) := by unfold a_again; rw [hx]; rfl
    have e2 : n_again (t, l, p, a, sl, v, sd) x = (t, l, p, a, sl, v, sd) := by unfold n_again; rw [hx]; rfl
    rw [e1, e2] at hp
    refine ev_iload_n (i := 1) dX8_again_5 rfl rfl ?_
    refine ev_i2l dX8_again_6 rfl ?_
    refine ev_lconst dX8_again_7 rfl ?_
    refine ev_lconst dX8_again_8 rfl ?_
    refine ev_S3 (μ1 := mX8_in) dX8_again_9 sX8_67 okX8_in (Nat.le_of_ble_eq_true rfl) (Nat.le_of_ble_eq_true rfl) ?_
    refine c_in ?_
    refine ev_top (i_op (congrArg bI ((in_r (n := 2) rfl).trans hx))) ?_
    refine ev_if_neB 17 dX8_again_12 (by decide) (fun b12 => by cases b12) (fun b12 => ?_)
    refine ev_iconst (v := (-1)) dX8_again_15 rfl ?_
    refine ev_reti dX8_again_16 rfl rfl ?_
    exact hp M0 (ag_rf M0 _ _) h
end MDT
