theorem in_y {x : Int32} : (decide ((1 : Int64) ≤ x.toInt64) && decide (x.toInt64 ≤ 30)) = (inR x 31 && decide (x.toNatClampNeg ≠ 0)) := by
  cases hx : inR x 31 with
  | true =>
    obtain ⟨w, hw, rfl⟩ := inR_of hx (by decide)
    rw [n_cl (by omega), Bool.true_and, Bool.eq_iff_iff]
    simp only [Bool.and_eq_true, decide_eq_true_eq, Int64.le_iff_toInt_le, Int32.toInt_toInt64, nI_toInt (show w < 2 ^ 31 by omega), show (1 : Int64).toInt = 1 from rfl, show (30 : Int64).toInt = 30 from rfl]
    omega
  | false =>
    have h1 := inR_out hx
    rw [Bool.false_and, Bool.eq_false_iff]
    simp only [ne_eq, Bool.and_eq_true, decide_eq_true_eq, Int64.le_iff_toInt_le, Int32.toInt_toInt64, show (1 : Int64).toInt = 1 from rfl, show (30 : Int64).toInt = 30 from rfl]
    omega
section MDY
variable {M : mM} {P : Option Value → mM → Prop} {s : cs}

theorem R_years {x : Int32} (h : kM M s) (ho : cOk s) (hp : ∀ M1, ag M M1 72 88 → kM M1 (n_years s x) → P (some (.int (a_years s x))) M1) : Ev 88 7 mX8_years none 0 [.ref 72, .int x, .null, .null, .null] [] M P := by
  refine m_thr dX8_years_0 dX8_years_1 dX8_years_2 fwX8_60 h (fun M0 a0 h => ?_)
  replace hp : ∀ M1, ag M0 M1 72 88 → kM M1 (n_years s x) → P (some (.int (a_years s x))) M1 := fun M1 ha hk => hp M1 (ag_tr (ag_wd a0 : ag M M0 72 88) ha) hk
  clear a0
  obtain ⟨t, l, p, a, sl, v, sd⟩ := s
  obtain ⟨⟨e, x0⟩, hR⟩ := id h
  obtain ⟨h1, h2, h3, h11, h4, h5, h6, h7⟩ : arr M0 73 40 t.1 t.2 ∧ kML M0 l ∧ kG M0 79 p ∧ (∃ q, kG M0 80 q) ∧ kBk M0 a ∧ kKp M0 sl ∧ kMV M0 v ∧ kX M0 := id hR
  obtain ⟨o1, o2, o3, o4, o5, o6, o7⟩ : txOk t ∧ ltOk l ∧ pgOk p ∧ (∀ q ∈ a, pgOk q) ∧ a.length ≤ 14 ∧ (∀ i q, sl i = some q → pgOk q) ∧ ovOk v := ho
  have hO : kO M0 e t.1 l.1 a.length v.1 sd := x0
  have hl6 := o2.1
  have hv6 := o7.1
  unfold kO at x0
  obtain ⟨g, g1, g2⟩ := id h3
  cases hx : (inR x 31 && decide (x.toNatClampNeg ≠ 0)) with
  | true =>
    obtain ⟨hx1, hx2⟩ := (Bool.and_eq_true _ _).mp hx
    have hx2 := of_decide_eq_true hx2
    have hx3 : inR x 31 = true ∧ x.toNatClampNeg ≠ 0 := ⟨hx1, hx2⟩
    obtain ⟨w, hw, rfl⟩ := inR_of hx1 (by decide)
    have hcl : (nI w).toNatClampNeg = w := n_cl (by omega)
    have e1 : a_years (t, l, p, a, sl, v, sd) (nI w) = nI (yrN l w p sd 0).1 := by unfold a_years; rw [if_pos hx3, hcl]
    have e2 : n_years (t, l, p, a, sl, v, sd) (nI w) = (t, l, p, a, sl, v, (yrN l w p sd 0).2) := by unfold n_years; rw [if_pos hx3, hcl]
    rw [e1, e2] at hp
    have lp : ∀ (j y acc : Nat) (q : pg) (sd1 : Int64) (lx : Value) (M1 : mM), y + j = w → ag M0 M1 72 88 → kO M1 e t.1 l.1 a.length v.1 sd1 → kR M1 (t, l, p, a, sl, v, sd1) → kG M1 80 q → pgOk q → yrN l w p sd 0 = yrN l j q sd1 acc → Ev 88 7 mX8_years none 50 [.ref 72, .int (nI w), .int (nI acc), .int (nI y), lx] [] M1 P := by
      intro j
      induction j with
      | zero =>
        intro y acc q sd1 lx M1 hy ha yO yR yq hqo e
        obtain rfl : y = w := by omega
        rw [e] at hp
        have z0 := yO
        unfold kO at z0
        refine ev_iload_n (i := 3) dX8_years_50 rfl rfl ?_
        refine ev_iload_n (i := 1) dX8_years_51 rfl rfl ?_
        refine ev_icmp_geN 160 dX8_years_52 (by decide) (by omega) (by omega) (fun b52 => ?_) (fun b52 => by exfalso; omega)
        refine ev_iload_n (i := 2) dX8_years_160 rfl rfl ?_
        refine ev_reti dX8_years_161 rfl rfl ?_
        exact hp M1 ha ⟨⟨_, yO⟩, yR⟩
      | succ j ih =>
        intro y acc q sd1 lx M1 hy ha yO yR yq hqo e1
        have z0 := yO
        unfold kO at z0
        have eA : ag M1 (mu M1 72 (.inr (8, [.int (e 0), .ref 73, .int (nI t.1), .int (e 1), .int (nI l.1), .ref 74, .ref 75, .ref 76, .ref 77, .int (e 2), .ref 78, .ref 79, .ref 80, .ref 81, .int (nI a.length), .ref 82, .ref 83, .int (nI v.1), .ref 84, .ref 85, .long (sdN sd1), .int (e 3), .int (e 4), .int (e 5), .int (e 6), .ref 86, .ref 87]))) 72 73 := ag_mu (ag_rf M1 _ _) (by omega) (by omega)
        have yO2 : kO (mu M1 72 (.inr (8, [.int (e 0), .ref 73, .int (nI t.1), .int (e 1), .int (nI l.1), .ref 74, .ref 75, .ref 76, .ref 77, .int (e 2), .ref 78, .ref 79, .ref 80, .ref 81, .int (nI a.length), .ref 82, .ref 83, .int (nI v.1), .ref 84, .ref 85, .long (sdN sd1), .int (e 3), .int (e 4), .int (e 5), .int (e 6), .ref 86, .ref 87]))) e t.1 l.1 a.length v.1 (sdN sd1) := mu_s _ _ _
        have yR2 : kR (mu M1 72 (.inr (8, [.int (e 0), .ref 73, .int (nI t.1), .int (e 1), .int (nI l.1), .ref 74, .ref 75, .ref 76, .ref 77, .int (e 2), .ref 78, .ref 79, .ref 80, .ref 81, .int (nI a.length), .ref 82, .ref 83, .int (nI v.1), .ref 84, .ref 85, .long (sdN sd1), .int (e 3), .int (e 4), .int (e 5), .int (e 6), .ref 86, .ref 87]))) (t, l, p, a, sl, v, sdN sd1) := kR_ob (kR_sd yR) eA
        have yq2 := kG_ag yq eA (by omega)
        have ha2 : ag M0 (mu M1 72 (.inr (8, [.int (e 0), .ref 73, .int (nI t.1), .int (e 1), .int (nI l.1), .ref 74, .ref 75, .ref 76, .ref 77, .int (e 2), .ref 78, .ref 79, .ref 80, .ref 81, .int (nI a.length), .ref 82, .ref 83, .int (nI v.1), .ref 84, .ref 85, .long (sdN sd1), .int (e 3), .int (e 4), .int (e 5), .int (e 6), .ref 86, .ref 87]))) 72 88 := ag_tr ha eA
        have hlot : lotN (sdN sd1) < 9 := by unfold lotN; omega
        have tl : ∀ (M2 : mM) (q2 : pg) (K : Nat), q2 = bfN l (lotN (sdN sd1)) q → ag M0 M2 72 88 → kO M2 e t.1 l.1 a.length v.1 (sdN sd1) → kR M2 (t, l, p, a, sl, v, sdN sd1) → kG M2 80 q2 → Ev 88 7 mX8_years none 137 [.ref 72, .int (nI w), .int (nI acc), .int (nI y), .int (nI K)] [] M2 P := by
          intro M2 q2 K hq2 hb1 hb2 hb3 hb4
          have hok : pgOk q2 := by rw [hq2]; exact bfN_ok o2 hqo
          have z2 := hb2
          unfold kO at z2
          refine ev_iload_n (i := 2) dX8_years_137 rfl rfl ?_
          refine ev_aload_n (i := 0) dX8_years_138 rfl rfl ?_
          refine ev_aload_n (i := 0) dX8_years_139 rfl rfl ?_
          refine ev_getfield dX8_years_140 fX8_31 (by first | omega | decide) (by first | assumption | (simp (disch := omega) only [mu_s, mu_n]; first | assumption | rfl)) (by rfl) ?_
          refine ev_S1 (μ1 := mX8_shown) dX8_years_143 sX8_102 okX8_shown (Nat.le_of_ble_eq_true rfl) (Nat.le_of_ble_eq_true rfl) ?_
          refine c_mShown (by omega) hb4 hok ?_
          refine ev_V1 (μ1 := mX8_readBy) dX8_years_146 sX8_106 okX8_readBy (by first | omega | decide) (by first | assumption | (simp (disch := omega) only [mu_s, mu_n]; first | assumption | rfl)) (Nat.le_of_ble_eq_true rfl) (Nat.le_of_ble_eq_true rfl) ?_
          refine c_mReadBy hb2 hb3.2.1 o2 ?_
          refine ev_S1 (μ1 := mX8_many) dX8_years_149 sX8_127 okX8_many (Nat.le_of_ble_eq_true rfl) (Nat.le_of_ble_eq_true rfl) ?_
          refine c_many (Nat.lt_of_lt_of_le (rd_lt o2 _) (by decide)) ?_
          refine ev_iaddN dX8_years_152 ?_
          refine ev_istore_n (i := 2) dX8_years_153 rfl (by decide) rfl ?_
          refine ev_incN dX8_years_154 (by rfl) (by decide) rfl ?_
          refine ev_goto 50 dX8_years_157 (by decide) ?_
          exact ih (y + 1) _ q2 (sdN sd1) _ M2 (by omega) hb1 hb2 hb3 hb4 hok (by rw [e1, hq2]; rfl)
        obtain ⟨K, hK⟩ : ∃ K, K = lotN (sdN sd1) := ⟨_, rfl⟩
        rw [← hK] at hlot tl
        have hlk := lot_ok (sdN sd1)
        rw [← hK] at hlk
        have bf : bfN l K q = if K < l.1 then pgPress (l.2.2.2.2 K) (l.2.2.2.1 K) K q else if K = 6 ∨ K = 7 then pgDay q else if K = 8 then pgNew q.2.2 else q := rfl
        by_cases h8 : K = 8
        · rw [if_neg (by omega), if_neg (by omega), if_pos h8] at bf
          refine ev_iload_n (i := 3) dX8_years_50 rfl rfl ?_
          refine ev_iload_n (i := 1) dX8_years_51 rfl rfl ?_
          refine ev_icmp_geN 160 dX8_years_52 (by decide) (by omega) (by omega) (fun b52 => by exfalso; omega) (fun b52 => ?_)
          refine ev_aload_n (i := 0) dX8_years_55 rfl rfl ?_
          refine ev_aload_n (i := 0) dX8_years_56 rfl rfl ?_
          refine ev_getfield dX8_years_57 fX8_197 (by first | omega | decide) (by first | assumption | (simp (disch := omega) only [mu_s, mu_n]; first | assumption | rfl)) (by rfl) ?_
          refine ev_ldc2_w dX8_years_60 kX8_203 ?_
          refine ev_lmul dX8_years_63 ?_
          refine ev_ldc2_w dX8_years_64 kX8_205 ?_
          refine ev_ladd dX8_years_67 ?_
          refine ev_putJ dX8_years_68 fwX8_197 (by first | omega | decide) (by first | assumption | (simp (disch := omega) only [mu_s, mu_n]; first | assumption | rfl)) (Nat.le_of_ble_eq_true rfl) ?_
          refine ev_aload_n (i := 0) dX8_years_71 rfl rfl ?_
          refine ev_getfield dX8_years_72 fX8_197 (by first | omega | decide) (by first | assumption | (simp (disch := omega) only [mu_s, mu_n]; first | assumption | rfl)) (by rfl) ?_
          refine ev_bipush (v := nI 33) dX8_years_75 rfl ?_
          refine ev_lushr dX8_years_77 rfl ?_
          refine ev_ldc2_w dX8_years_78 kX8_133 ?_
          refine ev_lrem dX8_years_81 (by decide) ?_
          refine ev_l2i dX8_years_82 rfl ?_
          refine ev_top (i_op hlk) ?_
          refine ev_mem (M1 := mu M1 72 (.inr (8, [.int (e 0), .ref 73, .int (nI t.1), .int (e 1), .int (nI l.1), .ref 74, .ref 75, .ref 76, .ref 77, .int (e 2), .ref 78, .ref 79, .ref 80, .ref 81, .int (nI a.length), .ref 82, .ref 83, .int (nI v.1), .ref 84, .ref 85, .long (sdN sd1), .int (e 3), .int (e 4), .int (e 5), .int (e 6), .ref 86, .ref 87]))) rfl ?_
          refine ev_istore (i := 4) dX8_years_83 (by decide) rfl ?_
          refine ev_iload (i := 4) dX8_years_85 rfl ?_
          refine ev_bipush (v := nI 8) dX8_years_87 rfl ?_
          refine ev_icmp_neN 102 dX8_years_89 (by decide) (by omega) (by omega) (fun b89 => by exfalso; omega) (fun b89 => ?_)
          refine ev_aload_n (i := 0) dX8_years_92 rfl rfl ?_
          refine ev_getfield dX8_years_93 fX8_31 (by first | omega | decide) (by first | assumption | (simp (disch := omega) only [mu_s, mu_n]; first | assumption | rfl)) (by rfl) ?_
          refine ev_S1 (μ1 := mX8_clean) dX8_years_96 sX8_56 okX8_clean (Nat.le_of_ble_eq_true rfl) (Nat.le_of_ble_eq_true rfl) ?_
          refine c_mClean (by omega) yq2 (fun M2 hb hk2 => ?_)
          refine ev_goto 137 dX8_years_99 (by decide) ?_
          exact tl M2 _ K bf.symm (ag_tr ha2 hb) (kO_ag yO2 hb (by omega)) (kR_tr yR2 hb hk2) hk2
        · by_cases h5 : 5 < K
          · rw [if_neg (by omega), if_pos (by omega)] at bf
            refine ev_iload_n (i := 3) dX8_years_50 rfl rfl ?_
            refine ev_iload_n (i := 1) dX8_years_51 rfl rfl ?_
            refine ev_icmp_geN 160 dX8_years_52 (by decide) (by omega) (by omega) (fun b52 => by exfalso; omega) (fun b52 => ?_)
            refine ev_aload_n (i := 0) dX8_years_55 rfl rfl ?_
            refine ev_aload_n (i := 0) dX8_years_56 rfl rfl ?_
            refine ev_getfield dX8_years_57 fX8_197 (by first | omega | decide) (by first | assumption | (simp (disch := omega) only [mu_s, mu_n]; first | assumption | rfl)) (by rfl) ?_
            refine ev_ldc2_w dX8_years_60 kX8_203 ?_
            refine ev_lmul dX8_years_63 ?_
            refine ev_ldc2_w dX8_years_64 kX8_205 ?_
            refine ev_ladd dX8_years_67 ?_
            refine ev_putJ dX8_years_68 fwX8_197 (by first | omega | decide) (by first | assumption | (simp (disch := omega) only [mu_s, mu_n]; first | assumption | rfl)) (Nat.le_of_ble_eq_true rfl) ?_
            refine ev_aload_n (i := 0) dX8_years_71 rfl rfl ?_
            refine ev_getfield dX8_years_72 fX8_197 (by first | omega | decide) (by first | assumption | (simp (disch := omega) only [mu_s, mu_n]; first | assumption | rfl)) (by rfl) ?_
            refine ev_bipush (v := nI 33) dX8_years_75 rfl ?_
            refine ev_lushr dX8_years_77 rfl ?_
            refine ev_ldc2_w dX8_years_78 kX8_133 ?_
            refine ev_lrem dX8_years_81 (by decide) ?_
            refine ev_l2i dX8_years_82 rfl ?_
            refine ev_top (i_op hlk) ?_
            refine ev_mem (M1 := mu M1 72 (.inr (8, [.int (e 0), .ref 73, .int (nI t.1), .int (e 1), .int (nI l.1), .ref 74, .ref 75, .ref 76, .ref 77, .int (e 2), .ref 78, .ref 79, .ref 80, .ref 81, .int (nI a.length), .ref 82, .ref 83, .int (nI v.1), .ref 84, .ref 85, .long (sdN sd1), .int (e 3), .int (e 4), .int (e 5), .int (e 6), .ref 86, .ref 87]))) rfl ?_
            refine ev_istore (i := 4) dX8_years_83 (by decide) rfl ?_
            refine ev_iload (i := 4) dX8_years_85 rfl ?_
            refine ev_bipush (v := nI 8) dX8_years_87 rfl ?_
            refine ev_icmp_neN 102 dX8_years_89 (by decide) (by omega) (by omega) (fun b89 => ?_) (fun b89 => by exfalso; omega)
            refine ev_iload (i := 4) dX8_years_102 rfl ?_
            refine ev_iconst (v := nI 5) dX8_years_104 rfl ?_
            refine ev_icmp_leN 118 dX8_years_105 (by decide) (by omega) (by omega) (fun b105 => by exfalso; omega) (fun b105 => ?_)
            refine ev_aload_n (i := 0) dX8_years_108 rfl rfl ?_
            refine ev_getfield dX8_years_109 fX8_31 (by first | omega | decide) (by first | assumption | (simp (disch := omega) only [mu_s, mu_n]; first | assumption | rfl)) (by rfl) ?_
            refine ev_S1 (μ1 := mX8_goDay) dX8_years_112 sX8_130 okX8_goDay (Nat.le_of_ble_eq_true rfl) (Nat.le_of_ble_eq_true rfl) ?_
            refine c_mGoDay (by omega) yq2 hqo (fun M2 hb hk2 => ?_)
            refine ev_goto 137 dX8_years_115 (by decide) ?_
            exact tl M2 _ K bf.symm (ag_tr ha2 hb) (kO_ag yO2 hb (by omega)) (kR_tr yR2 hb hk2) hk2
          · by_cases hl : K < l.1
            · rw [if_pos hl] at bf
              have hir : (!inR (nI K) l.1) = false := by rw [inR_nI (by omega), decide_eq_true hl]; rfl
              refine ev_iload_n (i := 3) dX8_years_50 rfl rfl ?_
              refine ev_iload_n (i := 1) dX8_years_51 rfl rfl ?_
              refine ev_icmp_geN 160 dX8_years_52 (by decide) (by omega) (by omega) (fun b52 => by exfalso; omega) (fun b52 => ?_)
              refine ev_aload_n (i := 0) dX8_years_55 rfl rfl ?_
              refine ev_aload_n (i := 0) dX8_years_56 rfl rfl ?_
              refine ev_getfield dX8_years_57 fX8_197 (by first | omega | decide) (by first | assumption | (simp (disch := omega) only [mu_s, mu_n]; first | assumption | rfl)) (by rfl) ?_
              refine ev_ldc2_w dX8_years_60 kX8_203 ?_
              refine ev_lmul dX8_years_63 ?_
              refine ev_ldc2_w dX8_years_64 kX8_205 ?_
              refine ev_ladd dX8_years_67 ?_
              refine ev_putJ dX8_years_68 fwX8_197 (by first | omega | decide) (by first | assumption | (simp (disch := omega) only [mu_s, mu_n]; first | assumption | rfl)) (Nat.le_of_ble_eq_true rfl) ?_
              refine ev_aload_n (i := 0) dX8_years_71 rfl rfl ?_
              refine ev_getfield dX8_years_72 fX8_197 (by first | omega | decide) (by first | assumption | (simp (disch := omega) only [mu_s, mu_n]; first | assumption | rfl)) (by rfl) ?_
              refine ev_bipush (v := nI 33) dX8_years_75 rfl ?_
              refine ev_lushr dX8_years_77 rfl ?_
              refine ev_ldc2_w dX8_years_78 kX8_133 ?_
              refine ev_lrem dX8_years_81 (by decide) ?_
              refine ev_l2i dX8_years_82 rfl ?_
              refine ev_top (i_op hlk) ?_
              refine ev_mem (M1 := mu M1 72 (.inr (8, [.int (e 0), .ref 73, .int (nI t.1), .int (e 1), .int (nI l.1), .ref 74, .ref 75, .ref 76, .ref 77, .int (e 2), .ref 78, .ref 79, .ref 80, .ref 81, .int (nI a.length), .ref 82, .ref 83, .int (nI v.1), .ref 84, .ref 85, .long (sdN sd1), .int (e 3), .int (e 4), .int (e 5), .int (e 6), .ref 86, .ref 87]))) rfl ?_
              refine ev_istore (i := 4) dX8_years_83 (by decide) rfl ?_
              refine ev_iload (i := 4) dX8_years_85 rfl ?_
              refine ev_bipush (v := nI 8) dX8_years_87 rfl ?_
              refine ev_icmp_neN 102 dX8_years_89 (by decide) (by omega) (by omega) (fun b89 => ?_) (fun b89 => by exfalso; omega)
              refine ev_iload (i := 4) dX8_years_102 rfl ?_
              refine ev_iconst (v := nI 5) dX8_years_104 rfl ?_
              refine ev_icmp_leN 118 dX8_years_105 (by decide) (by omega) (by omega) (fun b105 => ?_) (fun b105 => by exfalso; omega)
              refine ev_aload_n (i := 0) dX8_years_118 rfl rfl ?_
              refine ev_iload (i := 4) dX8_years_119 rfl ?_
              refine ev_V1 (μ1 := mX8_noLetter) dX8_years_121 sX8_113 okX8_noLetter (by first | omega | decide) (by first | assumption | (simp (disch := omega) only [mu_s, mu_n]; first | assumption | rfl)) (Nat.le_of_ble_eq_true rfl) (Nat.le_of_ble_eq_true rfl) ?_
              refine c_noLetter yO2 hl6 ?_
              refine ev_top (i_op (congrArg bI hir)) ?_
              refine ev_if_neB 137 dX8_years_124 (by decide) (fun b124 => by cases b124) (fun b124 => ?_)
              refine ev_aload_n (i := 0) dX8_years_127 rfl rfl ?_
              refine ev_aload_n (i := 0) dX8_years_128 rfl rfl ?_
              refine ev_getfield dX8_years_129 fX8_31 (by first | omega | decide) (by first | assumption | (simp (disch := omega) only [mu_s, mu_n]; first | assumption | rfl)) (by rfl) ?_
              refine ev_iload (i := 4) dX8_years_132 rfl ?_
              refine ev_V2 (μ1 := mX8_goPress) dX8_years_134 sX8_123 okX8_goPress (by first | omega | decide) (by first | assumption | (simp (disch := omega) only [mu_s, mu_n]; first | assumption | rfl)) (Nat.le_of_ble_eq_true rfl) (Nat.le_of_ble_eq_true rfl) ?_
              refine c_mGoPress (by omega) yq2 hqo yO2 yR2.2.1 o2 hl (fun M2 hb hk2 => ?_)
              exact tl M2 _ K bf.symm (ag_tr ha2 hb) (kO_ag yO2 hb (by omega)) (kR_tr yR2 hb hk2) hk2
            · rw [if_neg hl, if_neg (by omega), if_neg h8] at bf
              have hir : (!inR (nI K) l.1) = true := by rw [inR_nI (by omega), decide_eq_false hl]; rfl
              refine ev_iload_n (i := 3) dX8_years_50 rfl rfl ?_
              refine ev_iload_n (i := 1) dX8_years_51 rfl rfl ?_
              refine ev_icmp_geN 160 dX8_years_52 (by decide) (by omega) (by omega) (fun b52 => by exfalso; omega) (fun b52 => ?_)
              refine ev_aload_n (i := 0) dX8_years_55 rfl rfl ?_
              refine ev_aload_n (i := 0) dX8_years_56 rfl rfl ?_
              refine ev_getfield dX8_years_57 fX8_197 (by first | omega | decide) (by first | assumption | (simp (disch := omega) only [mu_s, mu_n]; first | assumption | rfl)) (by rfl) ?_
              refine ev_ldc2_w dX8_years_60 kX8_203 ?_
              refine ev_lmul dX8_years_63 ?_
              refine ev_ldc2_w dX8_years_64 kX8_205 ?_
              refine ev_ladd dX8_years_67 ?_
              refine ev_putJ dX8_years_68 fwX8_197 (by first | omega | decide) (by first | assumption | (simp (disch := omega) only [mu_s, mu_n]; first | assumption | rfl)) (Nat.le_of_ble_eq_true rfl) ?_
              refine ev_aload_n (i := 0) dX8_years_71 rfl rfl ?_
              refine ev_getfield dX8_years_72 fX8_197 (by first | omega | decide) (by first | assumption | (simp (disch := omega) only [mu_s, mu_n]; first | assumption | rfl)) (by rfl) ?_
              refine ev_bipush (v := nI 33) dX8_years_75 rfl ?_
              refine ev_lushr dX8_years_77 rfl ?_
              refine ev_ldc2_w dX8_years_78 kX8_133 ?_
              refine ev_lrem dX8_years_81 (by decide) ?_
              refine ev_l2i dX8_years_82 rfl ?_
              refine ev_top (i_op hlk) ?_
              refine ev_mem (M1 := mu M1 72 (.inr (8, [.int (e 0), .ref 73, .int (nI t.1), .int (e 1), .int (nI l.1), .ref 74, .ref 75, .ref 76, .ref 77, .int (e 2), .ref 78, .ref 79, .ref 80, .ref 81, .int (nI a.length), .ref 82, .ref 83, .int (nI v.1), .ref 84, .ref 85, .long (sdN sd1), .int (e 3), .int (e 4), .int (e 5), .int (e 6), .ref 86, .ref 87]))) rfl ?_
              refine ev_istore (i := 4) dX8_years_83 (by decide) rfl ?_
              refine ev_iload (i := 4) dX8_years_85 rfl ?_
              refine ev_bipush (v := nI 8) dX8_years_87 rfl ?_
              refine ev_icmp_neN 102 dX8_years_89 (by decide) (by omega) (by omega) (fun b89 => ?_) (fun b89 => by exfalso; omega)
              refine ev_iload (i := 4) dX8_years_102 rfl ?_
              refine ev_iconst (v := nI 5) dX8_years_104 rfl ?_
              refine ev_icmp_leN 118 dX8_years_105 (by decide) (by omega) (by omega) (fun b105 => ?_) (fun b105 => by exfalso; omega)
              refine ev_aload_n (i := 0) dX8_years_118 rfl rfl ?_
              refine ev_iload (i := 4) dX8_years_119 rfl ?_
              refine ev_V1 (μ1 := mX8_noLetter) dX8_years_121 sX8_113 okX8_noLetter (by first | omega | decide) (by first | assumption | (simp (disch := omega) only [mu_s, mu_n]; first | assumption | rfl)) (Nat.le_of_ble_eq_true rfl) (Nat.le_of_ble_eq_true rfl) ?_
              refine c_noLetter yO2 hl6 ?_
              refine ev_top (i_op (congrArg bI hir)) ?_
              refine ev_if_neB 137 dX8_years_124 (by decide) (fun b124 => ?_) (fun b124 => by cases b124)
              exact tl _ _ K bf.symm ha2 yO2 yR2 yq2
    have cp : ∀ (j c : Nat) (M1 : mM) (f1 : Nat → Int32), c + j = 25 → ag M0 M1 80 81 → M1 80 = .inl (0, 25, .inl f1) → (∀ i, i < c → f1 i = g i) → Ev 88 7 mX8_years none 22 [.ref 72, .int (nI w), .int (nI c), .null, .null] [] M1 P := by
      intro j
      induction j with
      | zero =>
        intro c M1 f1 hc ha y1 q1
        obtain rfl : c = 25 := by omega
        have yO := kO_ag hO ha (by omega)
        have z0 := yO
        unfold kO at z0
        have yq : kG M1 80 p := ⟨f1, y1, gF_cong g2 (fun j hj => (q1 j hj).symm)⟩
        refine ev_iload_n (i := 2) dX8_years_22 rfl rfl ?_
        refine ev_bipush (v := nI 25) dX8_years_23 rfl ?_
        refine ev_icmp_geN 46 dX8_years_25 (by decide) (by omega) (by omega) (fun b25 => ?_) (fun b25 => by exfalso; omega)
        refine ev_iconst (v := nI 0) dX8_years_46 rfl ?_
        refine ev_istore_n (i := 2) dX8_years_47 rfl (by decide) rfl ?_
        refine ev_iconst (v := nI 0) dX8_years_48 rfl ?_
        refine ev_istore_n (i := 3) dX8_years_49 rfl (by decide) rfl ?_
        exact lp w 0 0 p sd _ M1 (by omega) (ag_wd ha) yO (kR_tr hR ha yq) yq o3 rfl
      | succ j ih =>
        intro c M1 f1 hc ha y1 q1
        have yO := kO_ag hO ha (by omega)
        have z0 := yO
        unfold kO at z0
        have y79 := (ha 79 (by omega)).trans g1
        refine ev_iload_n (i := 2) dX8_years_22 rfl rfl ?_
        refine ev_bipush (v := nI 25) dX8_years_23 rfl ?_
        refine ev_icmp_geN 46 dX8_years_25 (by decide) (by omega) (by omega) (fun b25 => by exfalso; omega) (fun b25 => ?_)
        refine ev_aload_n (i := 0) dX8_years_28 rfl rfl ?_
        refine ev_getfield dX8_years_29 fX8_31 (by first | omega | decide) (by first | assumption | (simp (disch := omega) only [mu_s, mu_n]; first | assumption | rfl)) (by rfl) ?_
        refine ev_iload_n (i := 2) dX8_years_32 rfl rfl ?_
        refine ev_aload_n (i := 0) dX8_years_33 rfl rfl ?_
        refine ev_getfield dX8_years_34 fX8_28 (by first | omega | decide) (by first | assumption | (simp (disch := omega) only [mu_s, mu_n]; first | assumption | rfl)) (by rfl) ?_
        refine ev_iload_n (i := 2) dX8_years_37 rfl rfl ?_
        refine ev_ialoadN dX8_years_38 (by first | omega | decide) (by first | assumption | (simp (disch := omega) only [mu_s, mu_n]; first | assumption | rfl)) (by omega) (by decide) ?_
        refine ev_iastoreN dX8_years_39 (by first | omega | decide) (by first | assumption | (simp (disch := omega) only [mu_s, mu_n]; first | assumption | rfl)) (by omega) (by decide) ?_
        refine ev_incN dX8_years_40 (by rfl) (by decide) rfl ?_
        refine ev_goto 22 dX8_years_43 (by decide) ?_
        exact ih (c + 1) _ _ (by omega) (ag_mu ha (by omega) (by omega)) (mu_s _ _ _) (fun i hi => by
          by_cases z : i = c
          · rw [z]; exact upd_a rfl
          · exact (upd_b z).trans (q1 i (by omega)))
    obtain ⟨q0, f0, y0, -⟩ := h11
    refine ev_iload_n (i := 1) dX8_years_5 rfl rfl ?_
    refine ev_i2l dX8_years_6 rfl ?_
    refine ev_lconst dX8_years_7 rfl ?_
    refine ev_ldc2_w dX8_years_8 kX8_201 ?_
    refine ev_S3 (μ1 := mX8_in) dX8_years_11 sX8_67 okX8_in (Nat.le_of_ble_eq_true rfl) (Nat.le_of_ble_eq_true rfl) ?_
    refine c_in ?_
    refine ev_top (i_op (congrArg bI (in_y.trans hx))) ?_
    refine ev_if_neB 20 dX8_years_14 (by decide) (fun b14 => ?_) (fun b14 => by cases b14)
    refine ev_iconst (v := nI 0) dX8_years_20 rfl ?_
    refine ev_istore_n (i := 2) dX8_years_21 rfl (by decide) rfl ?_
    exact cp 25 0 M0 f0 rfl (ag_rf M0 _ _) y0 (fun i hi => absurd hi (Nat.not_lt_zero i))
  | false =>
    have hx3 : ¬ (inR x 31 = true ∧ x.toNatClampNeg ≠ 0) := fun z => by rw [z.1, decide_eq_true z.2] at hx; cases hx
    have e1 : a_years (t, l, p, a, sl, v, sd) x = (-2) := by unfold a_years; rw [if_neg hx3]
    have e2 : n_years (t, l, p, a, sl, v, sd) x = (t, l, p, a, sl, v, sd) := by unfold n_years; rw [if_neg hx3]
    rw [e1, e2] at hp
    refine ev_iload_n (i := 1) dX8_years_5 rfl rfl ?_
    refine ev_i2l dX8_years_6 rfl ?_
    refine ev_lconst dX8_years_7 rfl ?_
    refine ev_ldc2_w dX8_years_8 kX8_201 ?_
    refine ev_S3 (μ1 := mX8_in) dX8_years_11 sX8_67 okX8_in (Nat.le_of_ble_eq_true rfl) (Nat.le_of_ble_eq_true rfl) ?_
    refine c_in ?_
    refine ev_top (i_op (congrArg bI (in_y.trans hx))) ?_
    refine ev_if_neB 20 dX8_years_14 (by decide) (fun b14 => by cases b14) (fun b14 => ?_)
    refine ev_bipush (v := (-2)) dX8_years_17 rfl ?_
    refine ev_reti dX8_years_19 rfl rfl ?_
    exact hp M0 (ag_rf M0 _ _) h
theorem ch_fin : ∀ pl, pl < 9 → ∀ m, m < 16 → ∀ z, z < 16 → cnt (m * 2 ^ pl) = sN (fun i => m / 2 ^ i % 2) 4 ∧ cnt (andn (z * 2 ^ pl) (m * 2 ^ pl)) = sN (fun i => andn z m / 2 ^ i % 2) 4 ∧ (andn (m * 2 ^ pl) (z * 2 ^ pl) = 0 ↔ andn m z = 0) := by decide +kernel
theorem ch_f2 : ∀ m, m < 16 → ∀ z, z < 16 → andn m z = 0 → sN (fun i => if z.testBit i = true ∧ m.testBit i = true then 1 else 0) 4 = sN (fun i => m / 2 ^ i % 2) 4 ∧ sN (fun i => if z.testBit i = true ∧ m.testBit i = false then 1 else 0) 4 = sN (fun i => andn z m / 2 ^ i % 2) 4 := by decide +kernel
theorem sh_win (sh pl : Nat) : sh &&& 15 * 2 ^ pl = sh / 2 ^ pl % 16 * 2 ^ pl := by
  apply Nat.eq_of_testBit_eq
  intro i
  rw [Nat.testBit_and, Nat.testBit_mul_two_pow, Nat.testBit_mul_two_pow, show (15 : Nat) = 2 ^ 4 - 1 from rfl, Nat.testBit_two_pow_sub_one, show (16 : Nat) = 2 ^ 4 from rfl, Nat.testBit_mod_two_pow, Nat.testBit_div_two_pow]
  by_cases h : pl ≤ i
  · rw [show i - pl + pl = i by omega]
    cases sh.testBit i <;> simp
  · simp [h]

end MDY
