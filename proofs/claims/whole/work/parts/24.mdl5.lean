section MDU
variable {M : mM} {P : Option Value → mM → Prop} {s : cs}
def eS (e : Nat → Int32) (i : Nat) (x : Int32) : Nat → Int32 := fun j => if j = i then x else e j
theorem c_found {d w many al no : Nat} {e : Nat → Int32} {ts lc ac vc : Nat} {sd : Int64} (x0 : kO M e ts lc ac vc sd) (hw : w < 2 ^ 31) (hm : many < 2 ^ 31) (q3 : e 3 = nI many) (q4 : e 4 = nI al) (q5 : e 5 = nI no) (hp : P (some (.int (toldI w many al no))) M) : Ev 88 d mX8_found none 0 [.ref 72, .int (nI w)] [] M P := by
  unfold kO at x0
  unfold toldI at hp
  by_cases h0 : w = 0
  · rw [if_pos h0] at hp
    refine ev_iload_n (i := 1) dX8_found_0 rfl rfl ?_
    refine ev_if_neN 11 dX8_found_1 (by decide) (by omega) (fun b1 => by exfalso; omega) (fun b1 => ?_)
    refine ev_aload_n (i := 0) dX8_found_4 rfl rfl ?_
    refine ev_getfield dX8_found_5 fX8_144 (by first | omega | decide) (by first | assumption | (simp (disch := omega) only [mu_s, mu_n]; first | assumption | rfl)) (by rfl) ?_
    refine ev_goto 39 dX8_found_8 (by decide) ?_
    refine ev_reti dX8_found_39 rfl rfl ?_
    rw [q3]; exact hp
  · rw [if_neg h0] at hp
    by_cases h1 : many = 0
    · rw [if_pos h1] at hp
      refine ev_iload_n (i := 1) dX8_found_0 rfl rfl ?_
      refine ev_if_neN 11 dX8_found_1 (by decide) (by omega) (fun b1 => ?_) (fun b1 => by exfalso; omega)
      refine ev_aload_n (i := 0) dX8_found_11 rfl rfl ?_
      refine ev_getfield dX8_found_12 fX8_144 (by first | omega | decide) (by first | assumption | (simp (disch := omega) only [mu_s, mu_n]; first | assumption | rfl)) (by rfl) ?_
      refine ev_top (i_op q3) ?_
      refine ev_if_neN 23 dX8_found_15 (by decide) (by omega) (fun b15 => by exfalso; omega) (fun b15 => ?_)
      refine ev_bipush (v := (-9)) dX8_found_18 rfl ?_
      refine ev_goto 39 dX8_found_20 (by decide) ?_
      refine ev_reti dX8_found_39 rfl rfl ?_
      exact hp
    · rw [if_neg h1] at hp
      by_cases h2 : w = 1
      · rw [if_pos h2] at hp
        refine ev_iload_n (i := 1) dX8_found_0 rfl rfl ?_
        refine ev_if_neN 11 dX8_found_1 (by decide) (by omega) (fun b1 => ?_) (fun b1 => by exfalso; omega)
        refine ev_aload_n (i := 0) dX8_found_11 rfl rfl ?_
        refine ev_getfield dX8_found_12 fX8_144 (by first | omega | decide) (by first | assumption | (simp (disch := omega) only [mu_s, mu_n]; first | assumption | rfl)) (by rfl) ?_
        refine ev_top (i_op q3) ?_
        refine ev_if_neN 23 dX8_found_15 (by decide) (by omega) (fun b15 => ?_) (fun b15 => by exfalso; omega)
        refine ev_iload_n (i := 1) dX8_found_23 rfl rfl ?_
        refine ev_iconst (v := nI 1) dX8_found_24 rfl ?_
        refine ev_icmp_neN 35 dX8_found_25 (by decide) (by omega) (by omega) (fun b25 => by exfalso; omega) (fun b25 => ?_)
        refine ev_aload_n (i := 0) dX8_found_28 rfl rfl ?_
        refine ev_getfield dX8_found_29 fX8_147 (by first | omega | decide) (by first | assumption | (simp (disch := omega) only [mu_s, mu_n]; first | assumption | rfl)) (by rfl) ?_
        refine ev_goto 39 dX8_found_32 (by decide) ?_
        refine ev_reti dX8_found_39 rfl rfl ?_
        rw [q4]; exact hp
      · rw [if_neg h2] at hp
        refine ev_iload_n (i := 1) dX8_found_0 rfl rfl ?_
        refine ev_if_neN 11 dX8_found_1 (by decide) (by omega) (fun b1 => ?_) (fun b1 => by exfalso; omega)
        refine ev_aload_n (i := 0) dX8_found_11 rfl rfl ?_
        refine ev_getfield dX8_found_12 fX8_144 (by first | omega | decide) (by first | assumption | (simp (disch := omega) only [mu_s, mu_n]; first | assumption | rfl)) (by rfl) ?_
        refine ev_top (i_op q3) ?_
        refine ev_if_neN 23 dX8_found_15 (by decide) (by omega) (fun b15 => ?_) (fun b15 => by exfalso; omega)
        refine ev_iload_n (i := 1) dX8_found_23 rfl rfl ?_
        refine ev_iconst (v := nI 1) dX8_found_24 rfl ?_
        refine ev_icmp_neN 35 dX8_found_25 (by decide) (by omega) (by omega) (fun b25 => ?_) (fun b25 => by exfalso; omega)
        refine ev_aload_n (i := 0) dX8_found_35 rfl rfl ?_
        refine ev_getfield dX8_found_36 fX8_150 (by first | omega | decide) (by first | assumption | (simp (disch := omega) only [mu_s, mu_n]; first | assumption | rfl)) (by rfl) ?_
        refine ev_reti dX8_found_39 rfl rfl ?_
        rw [q5]; exact hp
theorem andn_2 (a b c : Nat) : andn (andn a b) c = andn a (b ||| c) := by
  apply Nat.eq_of_testBit_eq
  intro i
  rw [andn_tb, andn_tb, andn_tb, Nat.testBit_or]
  cases a.testBit i <;> cases b.testBit i <;> cases c.testBit i <;> rfl
theorem aN_le {p : Nat → Bool} {g : Nat → Nat} {z : Nat} : ∀ n, aN p g z n ≤ z
  | 0 => Nat.le_refl _
  | n + 1 => by
    unfold aN
    split
    · exact Nat.le_trans Nat.and_le_left (aN_le n)
    · exact aN_le n

theorem R_fits {x : Int32} (h : kM M s) (ho : cOk s) (hp : ∀ M1, ag M M1 72 88 → kM M1 (s) → P (some (.int (a_fits s x))) M1) : Ev 88 7 mX8_fits none 0 [.ref 72, .int x, .null] [] M P := by
  refine m_thr dX8_fits_0 dX8_fits_1 dX8_fits_2 fwX8_60 h (fun M0 a0 h => ?_)
  replace hp : ∀ M1, ag M0 M1 72 88 → kM M1 (s) → P (some (.int (a_fits s x))) M1 := fun M1 ha hk => hp M1 (ag_tr (ag_wd a0 : ag M M0 72 88) ha) hk
  clear a0
  obtain ⟨t, l, p, a, sl, v, sd⟩ := s
  obtain ⟨⟨e, x0⟩, hR⟩ := id h
  obtain ⟨h1, h2, h3, h11, h4, h5, h6, h7⟩ : arr M0 73 40 t.1 t.2 ∧ kML M0 l ∧ kG M0 79 p ∧ (∃ q, kG M0 80 q) ∧ kBk M0 a ∧ kKp M0 sl ∧ kMV M0 v ∧ kX M0 := id hR
  obtain ⟨o1, o2, o3, o4, o5, o6, o7⟩ : txOk t ∧ ltOk l ∧ pgOk p ∧ (∀ q ∈ a, pgOk q) ∧ a.length ≤ 14 ∧ (∀ i q, sl i = some q → pgOk q) ∧ ovOk v := ho
  have hO : kO M0 e t.1 l.1 a.length v.1 sd := x0
  have hl6 := o2.1
  have hv6 := o7.1
  unfold kO at x0
  unfold a_fits at hp
  have h64 := pw_64 hl6
  have hpos := Nat.two_pow_pos l.1
  cases hx : inR x 3 with
  | true =>
    rw [if_pos hx] at hp
    obtain ⟨w, hw, rfl⟩ := inR_of hx (by decide)
    rw [n_cl (by omega)] at hp
    have hsh := shN_lt p.1 0
    have lp : ∀ (j c : Nat) (M1 : mM) (e1 : Nat → Int32), c + j = 2 ^ l.1 → ag M0 M1 72 88 → kO M1 e1 t.1 l.1 a.length v.1 sd → kR M1 (t, l, p, a, sl, v, sd) → e1 3 = nI (cN (fiP (t, l, p, a, sl, v, sd)) c) → e1 4 = nI (aN (fiP (t, l, p, a, sl, v, sd)) (fun i => i) (2 ^ l.1 - 1) c) → e1 5 = nI (andn (2 ^ l.1 - 1) (oN (fiP (t, l, p, a, sl, v, sd)) (fun i => i) c)) → Ev 88 7 mX8_fits none 43 [.ref 72, .int (nI w), .int (nI c)] [] M1 P := by
      intro j
      induction j with
      | zero =>
        intro c M1 e1 hc ha yO yR q3 q4 q5
        obtain rfl : c = 2 ^ l.1 := by omega
        have z0 := yO
        unfold kO at z0
        have hcn := cN_le (fiP (t, l, p, a, sl, v, sd)) (2 ^ l.1)
        refine ev_iload_n (i := 2) dX8_fits_43 rfl rfl ?_
        refine ev_aload_n (i := 0) dX8_fits_44 rfl rfl ?_
        refine ev_V0 (μ1 := mX8_everyone) dX8_fits_45 sX8_138 okX8_everyone (by first | omega | decide) (by first | assumption | (simp (disch := omega) only [mu_s, mu_n]; first | assumption | rfl)) (Nat.le_of_ble_eq_true rfl) (Nat.le_of_ble_eq_true rfl) ?_
        refine c_everyone yO hl6 ?_
        refine ev_icmp_gtN 104 dX8_fits_48 (by decide) (by omega) (by omega) (fun b48 => ?_) (fun b48 => by exfalso; omega)
        refine ev_aload_n (i := 0) dX8_fits_104 rfl rfl ?_
        refine ev_iload_n (i := 1) dX8_fits_105 rfl rfl ?_
        refine ev_V1 (μ1 := mX8_found) dX8_fits_106 sX8_155 okX8_found (by first | omega | decide) (by first | assumption | (simp (disch := omega) only [mu_s, mu_n]; first | assumption | rfl)) (Nat.le_of_ble_eq_true rfl) (Nat.le_of_ble_eq_true rfl) ?_
        refine c_found yO (by omega) (by omega) q3 q4 q5 ?_
        refine ev_reti dX8_fits_109 rfl rfl ?_
        exact hp M1 ha ⟨⟨e1, yO⟩, yR⟩
      | succ j ih =>
        intro c M1 e1 hc ha yO yR q3 q4 q5
        have z0 := yO
        unfold kO at z0
        have hsb := shBy_lt o2 c
        by_cases hf : shBy l c = shN p.1 0
        · have hb : fiP (t, l, p, a, sl, v, sd) c = true := decide_eq_true hf
          refine ev_iload_n (i := 2) dX8_fits_43 rfl rfl ?_
          refine ev_aload_n (i := 0) dX8_fits_44 rfl rfl ?_
          refine ev_V0 (μ1 := mX8_everyone) dX8_fits_45 sX8_138 okX8_everyone (by first | omega | decide) (by first | assumption | (simp (disch := omega) only [mu_s, mu_n]; first | assumption | rfl)) (Nat.le_of_ble_eq_true rfl) (Nat.le_of_ble_eq_true rfl) ?_
          refine c_everyone yO hl6 ?_
          refine ev_icmp_gtN 104 dX8_fits_48 (by decide) (by omega) (by omega) (fun b48 => by exfalso; omega) (fun b48 => ?_)
          refine ev_aload_n (i := 0) dX8_fits_51 rfl rfl ?_
          refine ev_iload_n (i := 2) dX8_fits_52 rfl rfl ?_
          refine ev_V1 (μ1 := mX8_showsBy) dX8_fits_53 sX8_141 okX8_showsBy (by first | omega | decide) (by first | assumption | (simp (disch := omega) only [mu_s, mu_n]; first | assumption | rfl)) (Nat.le_of_ble_eq_true rfl) (Nat.le_of_ble_eq_true rfl) ?_
          refine c_mShowsBy yO yR.2.1 o2 (by omega) ?_
          refine ev_aload_n (i := 0) dX8_fits_56 rfl rfl ?_
          refine ev_getfield dX8_fits_57 fX8_28 (by first | omega | decide) (by first | assumption | (simp (disch := omega) only [mu_s, mu_n]; first | assumption | rfl)) (by rfl) ?_
          refine ev_S1 (μ1 := mX8_shown) dX8_fits_60 sX8_102 okX8_shown (Nat.le_of_ble_eq_true rfl) (Nat.le_of_ble_eq_true rfl) ?_
          refine c_mShown (p := p) (by omega) yR.2.2.1 o3 ?_
          refine ev_icmp_neN 98 dX8_fits_63 (by decide) (by omega) (by omega) (fun b63 => by exfalso; omega) (fun b63 => ?_)
          refine ev_aload_n (i := 0) dX8_fits_66 rfl rfl ?_
          refine ev_dup dX8_fits_67 rfl ?_
          refine ev_getfield dX8_fits_68 fX8_144 (by first | omega | decide) (by first | assumption | (simp (disch := omega) only [mu_s, mu_n]; first | assumption | rfl)) (by rfl) ?_
          refine ev_top (i_op q3) ?_
          refine ev_iconst (v := nI 1) dX8_fits_71 rfl ?_
          refine ev_iaddN dX8_fits_72 ?_
          refine ev_putI dX8_fits_73 fwX8_144 (by first | omega | decide) (by first | assumption | (simp (disch := omega) only [mu_s, mu_n]; first | assumption | rfl)) (Nat.le_of_ble_eq_true rfl) ?_
          refine ev_aload_n (i := 0) dX8_fits_76 rfl rfl ?_
          refine ev_dup dX8_fits_77 rfl ?_
          refine ev_getfield dX8_fits_78 fX8_147 (by first | omega | decide) (by first | assumption | (simp (disch := omega) only [mu_s, mu_n]; first | assumption | rfl)) (by rfl) ?_
          refine ev_top (i_op q4) ?_
          refine ev_iload_n (i := 2) dX8_fits_81 rfl rfl ?_
          refine ev_iandN dX8_fits_82 ?_
          refine ev_putI dX8_fits_83 fwX8_147 (by first | omega | decide) (by first | assumption | (simp (disch := omega) only [mu_s, mu_n]; first | assumption | rfl)) (Nat.le_of_ble_eq_true rfl) ?_
          refine ev_aload_n (i := 0) dX8_fits_86 rfl rfl ?_
          refine ev_dup dX8_fits_87 rfl ?_
          refine ev_getfield dX8_fits_88 fX8_150 (by first | omega | decide) (by first | assumption | (simp (disch := omega) only [mu_s, mu_n]; first | assumption | rfl)) (by rfl) ?_
          refine ev_top (i_op q5) ?_
          refine ev_iload_n (i := 2) dX8_fits_91 rfl rfl ?_
          refine ev_iconst (v := (-1)) dX8_fits_92 rfl ?_
          refine ev_ixor dX8_fits_93 ?_
          refine ev_iand dX8_fits_94 ?_
          refine ev_top (i_op (andn_nI _ _)) ?_
          refine ev_putI dX8_fits_95 fwX8_150 (by first | omega | decide) (by first | assumption | (simp (disch := omega) only [mu_s, mu_n]; first | assumption | rfl)) (Nat.le_of_ble_eq_true rfl) ?_
          refine ev_incN dX8_fits_98 (by rfl) (by decide) rfl ?_
          refine ev_goto 43 dX8_fits_101 (by decide) ?_
          refine ih (c + 1) _ (eS (eS (eS e1 3 (nI (cN (fiP (t, l, p, a, sl, v, sd)) c + 1))) 4 (nI (aN (fiP (t, l, p, a, sl, v, sd)) (fun i => i) (2 ^ l.1 - 1) c &&& c))) 5 (nI (andn (andn (2 ^ l.1 - 1) (oN (fiP (t, l, p, a, sl, v, sd)) (fun i => i) c)) c))) (by omega) (ag_mu (ag_mu (ag_mu ha (by omega) (by omega)) (by omega) (by omega)) (by omega) (by omega)) (mu_s _ _ _) (kR_ob yR (ag_mu (ag_mu (ag_mu (ag_rf M1 _ _) (by omega) (by omega)) (by omega) (by omega)) (by omega) (by omega))) ?_ ?_ ?_
          · exact congrArg nI (cN_t hb)
          · exact congrArg nI (aN_t (g := fun i => i) hb)
          · show nI (andn (andn _ _) c) = _; rw [andn_2]; exact congrArg nI (congrArg (andn _) (oN_t (g := fun i => i) hb))
        · have hb : fiP (t, l, p, a, sl, v, sd) c = false := decide_eq_false hf
          refine ev_iload_n (i := 2) dX8_fits_43 rfl rfl ?_
          refine ev_aload_n (i := 0) dX8_fits_44 rfl rfl ?_
          refine ev_V0 (μ1 := mX8_everyone) dX8_fits_45 sX8_138 okX8_everyone (by first | omega | decide) (by first | assumption | (simp (disch := omega) only [mu_s, mu_n]; first | assumption | rfl)) (Nat.le_of_ble_eq_true rfl) (Nat.le_of_ble_eq_true rfl) ?_
          refine c_everyone yO hl6 ?_
          refine ev_icmp_gtN 104 dX8_fits_48 (by decide) (by omega) (by omega) (fun b48 => by exfalso; omega) (fun b48 => ?_)
          refine ev_aload_n (i := 0) dX8_fits_51 rfl rfl ?_
          refine ev_iload_n (i := 2) dX8_fits_52 rfl rfl ?_
          refine ev_V1 (μ1 := mX8_showsBy) dX8_fits_53 sX8_141 okX8_showsBy (by first | omega | decide) (by first | assumption | (simp (disch := omega) only [mu_s, mu_n]; first | assumption | rfl)) (Nat.le_of_ble_eq_true rfl) (Nat.le_of_ble_eq_true rfl) ?_
          refine c_mShowsBy yO yR.2.1 o2 (by omega) ?_
          refine ev_aload_n (i := 0) dX8_fits_56 rfl rfl ?_
          refine ev_getfield dX8_fits_57 fX8_28 (by first | omega | decide) (by first | assumption | (simp (disch := omega) only [mu_s, mu_n]; first | assumption | rfl)) (by rfl) ?_
          refine ev_S1 (μ1 := mX8_shown) dX8_fits_60 sX8_102 okX8_shown (Nat.le_of_ble_eq_true rfl) (Nat.le_of_ble_eq_true rfl) ?_
          refine c_mShown (p := p) (by omega) yR.2.2.1 o3 ?_
          refine ev_icmp_neN 98 dX8_fits_63 (by decide) (by omega) (by omega) (fun b63 => ?_) (fun b63 => by exfalso; omega)
          refine ev_incN dX8_fits_98 (by rfl) (by decide) rfl ?_
          refine ev_goto 43 dX8_fits_101 (by decide) ?_
          refine ih (c + 1) M1 e1 (by omega) ha yO yR ?_ ?_ ?_
          · rw [q3]; exact congrArg nI (cN_f hb)
          · rw [q4]; exact congrArg nI (aN_f hb)
          · rw [q5]; exact congrArg nI (congrArg (andn _) (oN_f (by rw [hb]; decide)))
    refine ev_iload_n (i := 1) dX8_fits_5 rfl rfl ?_
    refine ev_i2l dX8_fits_6 rfl ?_
    refine ev_lconst dX8_fits_7 rfl ?_
    refine ev_ldc2_w dX8_fits_8 kX8_153 ?_
    refine ev_S3 (μ1 := mX8_in) dX8_fits_11 sX8_67 okX8_in (Nat.le_of_ble_eq_true rfl) (Nat.le_of_ble_eq_true rfl) ?_
    refine c_in ?_
    refine ev_top (i_op (congrArg bI ((in_r (n := 3) rfl).trans hx))) ?_
    refine ev_if_neB 20 dX8_fits_14 (by decide) (fun b14 => ?_) (fun b14 => by cases b14)
    refine ev_aload_n (i := 0) dX8_fits_20 rfl rfl ?_
    refine ev_iconst (v := nI 0) dX8_fits_21 rfl ?_
    refine ev_putI dX8_fits_22 fwX8_144 (by first | omega | decide) (by first | assumption | (simp (disch := omega) only [mu_s, mu_n]; first | assumption | rfl)) (Nat.le_of_ble_eq_true rfl) ?_
    refine ev_aload_n (i := 0) dX8_fits_25 rfl rfl ?_
    refine ev_aload_n (i := 0) dX8_fits_26 rfl rfl ?_
    refine ev_V0 (μ1 := mX8_everyone) dX8_fits_27 sX8_138 okX8_everyone (by first | omega | decide) (by first | assumption | (simp (disch := omega) only [mu_s, mu_n]; first | assumption | rfl)) (Nat.le_of_ble_eq_true rfl) (Nat.le_of_ble_eq_true rfl) ?_
    refine c_everyone (e := eS e 3 (nI 0)) (mu_s _ _ _) hl6 ?_
    refine ev_putI dX8_fits_30 fwX8_147 (by first | omega | decide) (by first | assumption | (simp (disch := omega) only [mu_s, mu_n]; first | assumption | rfl)) (Nat.le_of_ble_eq_true rfl) ?_
    refine ev_aload_n (i := 0) dX8_fits_33 rfl rfl ?_
    refine ev_aload_n (i := 0) dX8_fits_34 rfl rfl ?_
    refine ev_V0 (μ1 := mX8_everyone) dX8_fits_35 sX8_138 okX8_everyone (by first | omega | decide) (by first | assumption | (simp (disch := omega) only [mu_s, mu_n]; first | assumption | rfl)) (Nat.le_of_ble_eq_true rfl) (Nat.le_of_ble_eq_true rfl) ?_
    refine c_everyone (e := eS (eS e 3 (nI 0)) 4 (nI (2 ^ l.1 - 1))) (mu_s _ _ _) hl6 ?_
    refine ev_putI dX8_fits_38 fwX8_150 (by first | omega | decide) (by first | assumption | (simp (disch := omega) only [mu_s, mu_n]; first | assumption | rfl)) (Nat.le_of_ble_eq_true rfl) ?_
    refine ev_iconst (v := nI 0) dX8_fits_41 rfl ?_
    refine ev_istore_n (i := 2) dX8_fits_42 rfl (by decide) rfl ?_
    refine lp (2 ^ l.1) 0 _ (eS (eS (eS e 3 (nI 0)) 4 (nI (2 ^ l.1 - 1))) 5 (nI (2 ^ l.1 - 1))) (by omega) (ag_mu (ag_mu (ag_mu (ag_rf M0 _ _) (by omega) (by omega)) (by omega) (by omega)) (by omega) (by omega)) (mu_s _ _ _) (kR_ob hR (ag_mu (ag_mu (ag_mu (ag_rf M0 _ _) (by omega) (by omega)) (by omega) (by omega)) (by omega) (by omega))) rfl rfl ?_
    show nI (2 ^ l.1 - 1) = nI (andn (2 ^ l.1 - 1) 0)
    unfold andn
    rw [Nat.or_zero, Nat.xor_zero]
  | false =>
    rw [hx, if_neg (by decide)] at hp
    refine ev_iload_n (i := 1) dX8_fits_5 rfl rfl ?_
    refine ev_i2l dX8_fits_6 rfl ?_
    refine ev_lconst dX8_fits_7 rfl ?_
    refine ev_ldc2_w dX8_fits_8 kX8_153 ?_
    refine ev_S3 (μ1 := mX8_in) dX8_fits_11 sX8_67 okX8_in (Nat.le_of_ble_eq_true rfl) (Nat.le_of_ble_eq_true rfl) ?_
    refine c_in ?_
    refine ev_top (i_op (congrArg bI ((in_r (n := 3) rfl).trans hx))) ?_
    refine ev_if_neB 20 dX8_fits_14 (by decide) (fun b14 => by cases b14) (fun b14 => ?_)
    refine ev_bipush (v := (-2)) dX8_fits_17 rfl ?_
    refine ev_reti dX8_fits_19 rfl rfl ?_
    exact hp M0 (ag_rf M0 _ _) h
theorem roN_0 (t : lt) : roN t 0 = 0 := by unfold roN; rw [Nat.zero_and]; exact cnt_z
theorem R_keeps {x : Int32} (h : kM M s) (ho : cOk s) (hp : ∀ M1, ag M M1 72 88 → kM M1 (s) → P (some (.int (a_keeps s x))) M1) : Ev 88 7 mX8_keeps none 0 [.ref 72, .int x, .null, .null, .null, .null, .null] [] M P := by
  refine m_thr dX8_keeps_0 dX8_keeps_1 dX8_keeps_2 fwX8_60 h (fun M0 a0 h => ?_)
  replace hp : ∀ M1, ag M0 M1 72 88 → kM M1 (s) → P (some (.int (a_keeps s x))) M1 := fun M1 ha hk => hp M1 (ag_tr (ag_wd a0 : ag M M0 72 88) ha) hk
  clear a0
  obtain ⟨t, l, p, a, sl, v, sd⟩ := s
  obtain ⟨⟨e, x0⟩, hR⟩ := id h
  obtain ⟨h1, h2, h3, h11, h4, h5, h6, h7⟩ : arr M0 73 40 t.1 t.2 ∧ kML M0 l ∧ kG M0 79 p ∧ (∃ q, kG M0 80 q) ∧ kBk M0 a ∧ kKp M0 sl ∧ kMV M0 v ∧ kX M0 := id hR
  obtain ⟨o1, o2, o3, o4, o5, o6, o7⟩ : txOk t ∧ ltOk l ∧ pgOk p ∧ (∀ q ∈ a, pgOk q) ∧ a.length ≤ 14 ∧ (∀ i q, sl i = some q → pgOk q) ∧ ovOk v := ho
  have hO : kO M0 e t.1 l.1 a.length v.1 sd := x0
  have hl6 := o2.1
  have hv6 := o7.1
  unfold kO at x0
  unfold a_keeps at hp
  have h64 := pw_64 hl6
  have hpos := Nat.two_pow_pos l.1
  cases hx : inR x 2 with
  | true =>
    rw [if_pos hx] at hp
    obtain ⟨w, hw, rfl⟩ := inR_of hx (by decide)
    rw [n_cl (by omega)] at hp
    have lp : ∀ (j k : Nat) (lx ly : Value), k + 1 + j = 2 ^ l.1 → Ev 88 7 mX8_keeps none 25 [.ref 72, .int (nI w), .int (nI (kbN l k)), .int (nI (roN l (kbN l k))), .int (nI (k + 1)), lx, ly] [] M0 P := by
      intro j
      induction j with
      | zero =>
        intro k lx ly hk
        obtain rfl : k = 2 ^ l.1 - 1 := by omega
        by_cases hw0 : w = 0
        · rw [if_pos hw0] at hp
          refine ev_iload (i := 4) dX8_keeps_25 rfl ?_
          refine ev_aload_n (i := 0) dX8_keeps_27 rfl rfl ?_
          refine ev_V0 (μ1 := mX8_everyone) dX8_keeps_28 sX8_138 okX8_everyone (by first | omega | decide) (by first | assumption | (simp (disch := omega) only [mu_s, mu_n]; first | assumption | rfl)) (Nat.le_of_ble_eq_true rfl) (Nat.le_of_ble_eq_true rfl) ?_
          refine c_everyone hO hl6 ?_
          refine ev_icmp_gtN 113 dX8_keeps_31 (by decide) (by omega) (by omega) (fun b31 => ?_) (fun b31 => by exfalso; omega)
          refine ev_iload_n (i := 1) dX8_keeps_113 rfl rfl ?_
          refine ev_if_neN 121 dX8_keeps_114 (by decide) (by omega) (fun b114 => by exfalso; omega) (fun b114 => ?_)
          refine ev_iload_n (i := 3) dX8_keeps_117 rfl rfl ?_
          refine ev_goto 122 dX8_keeps_118 (by decide) ?_
          refine ev_reti dX8_keeps_122 rfl rfl ?_
          exact hp M0 (ag_rf M0 _ _) h
        · rw [if_neg hw0] at hp
          refine ev_iload (i := 4) dX8_keeps_25 rfl ?_
          refine ev_aload_n (i := 0) dX8_keeps_27 rfl rfl ?_
          refine ev_V0 (μ1 := mX8_everyone) dX8_keeps_28 sX8_138 okX8_everyone (by first | omega | decide) (by first | assumption | (simp (disch := omega) only [mu_s, mu_n]; first | assumption | rfl)) (Nat.le_of_ble_eq_true rfl) (Nat.le_of_ble_eq_true rfl) ?_
          refine c_everyone hO hl6 ?_
          refine ev_icmp_gtN 113 dX8_keeps_31 (by decide) (by omega) (by omega) (fun b31 => ?_) (fun b31 => by exfalso; omega)
          refine ev_iload_n (i := 1) dX8_keeps_113 rfl rfl ?_
          refine ev_if_neN 121 dX8_keeps_114 (by decide) (by omega) (fun b114 => ?_) (fun b114 => by exfalso; omega)
          refine ev_iload_n (i := 2) dX8_keeps_121 rfl rfl ?_
          refine ev_reti dX8_keeps_122 rfl rfl ?_
          exact hp M0 (ag_rf M0 _ _) h
      | succ j ih =>
        intro k lx ly hk
        have hb1 := kbN_le l k
        have hn : cnt (rdSet l (shBy l (k + 1)) &&& (k + 1)) = roN l (k + 1) := by unfold roN; rw [Nat.and_comm]
        have r1 : roN l (k + 1) ≤ 12 := cnt_le _
        have r2 : roN l (kbN l k) ≤ 12 := cnt_le _
        have r3 := cnt_le (k + 1)
        have r4 := cnt_le (kbN l k)
        have e : kbN l (k + 1) = if kmB l (k + 1) (kbN l k) = true then k + 1 else kbN l k := rfl
        refine ev_iload (i := 4) dX8_keeps_25 rfl ?_
        refine ev_aload_n (i := 0) dX8_keeps_27 rfl rfl ?_
        refine ev_V0 (μ1 := mX8_everyone) dX8_keeps_28 sX8_138 okX8_everyone (by first | omega | decide) (by first | assumption | (simp (disch := omega) only [mu_s, mu_n]; first | assumption | rfl)) (Nat.le_of_ble_eq_true rfl) (Nat.le_of_ble_eq_true rfl) ?_
        refine c_everyone hO hl6 ?_
        refine ev_icmp_gtN 113 dX8_keeps_31 (by decide) (by omega) (by omega) (fun b31 => by exfalso; omega) (fun b31 => ?_)
        refine ev_aload_n (i := 0) dX8_keeps_34 rfl rfl ?_
        refine ev_aload_n (i := 0) dX8_keeps_35 rfl rfl ?_
        refine ev_iload (i := 4) dX8_keeps_36 rfl ?_
        refine ev_V1 (μ1 := mX8_showsBy) dX8_keeps_38 sX8_141 okX8_showsBy (by first | omega | decide) (by first | assumption | (simp (disch := omega) only [mu_s, mu_n]; first | assumption | rfl)) (Nat.le_of_ble_eq_true rfl) (Nat.le_of_ble_eq_true rfl) ?_
        refine c_mShowsBy hO h2 o2 (by omega) ?_
        refine ev_V1 (μ1 := mX8_readBy) dX8_keeps_41 sX8_106 okX8_readBy (by first | omega | decide) (by first | assumption | (simp (disch := omega) only [mu_s, mu_n]; first | assumption | rfl)) (Nat.le_of_ble_eq_true rfl) (Nat.le_of_ble_eq_true rfl) ?_
        refine c_mReadBy hO h2 o2 ?_
        refine ev_iload (i := 4) dX8_keeps_44 rfl ?_
        refine ev_iandN dX8_keeps_46 ?_
        refine ev_S1 (μ1 := mX8_many) dX8_keeps_47 sX8_127 okX8_many (Nat.le_of_ble_eq_true rfl) (Nat.le_of_ble_eq_true rfl) ?_
        refine c_many (and_lt31 (by omega)) ?_
        refine ev_top (i_op (congrArg nI hn)) ?_
        refine ev_istore (i := 5) dX8_keeps_50 (by decide) rfl ?_
        refine ev_iload (i := 5) dX8_keeps_52 rfl ?_
        refine ev_iload_n (i := 3) dX8_keeps_54 rfl rfl ?_
        refine ev_icmp_gtN 76 dX8_keeps_55 (by decide) (by omega) (by omega) (fun b55 => ?_) (fun b55 => ?_)
        · skip
          refine ev_iconst (v := nI 1) dX8_keeps_76 rfl ?_
          refine ev_goto 81 dX8_keeps_77 (by decide) ?_
          refine ev_istore (i := 6) dX8_keeps_81 (by decide) rfl ?_
          refine ev_iload (i := 6) dX8_keeps_83 rfl ?_
          refine ev_if_eqN 93 dX8_keeps_85 (by decide) (by omega) (fun b85 => ?_) (fun b85 => ?_)
          · first
            | (exfalso; omega)
            | (skip
               refine ev_iload_n (i := 2) dX8_keeps_93 rfl rfl ?_
               refine ev_istore_n (i := 2) dX8_keeps_94 rfl (by decide) rfl ?_
               refine ev_iload (i := 6) dX8_keeps_95 rfl ?_
               refine ev_if_eqN 105 dX8_keeps_97 (by decide) (by omega) (fun b97 => ?_) (fun b97 => ?_)
               · first
                 | (exfalso; omega)
                 | (skip
                    refine ev_iload_n (i := 3) dX8_keeps_105 rfl rfl ?_
                    refine ev_istore_n (i := 3) dX8_keeps_106 rfl (by decide) rfl ?_
                    refine ev_incN dX8_keeps_107 (by rfl) (by decide) rfl ?_
                    refine ev_goto 25 dX8_keeps_110 (by decide) ?_
                    first
                    | (have q : kmB l (k + 1) (kbN l k) = true := decide_eq_true (by omega)
                       rw [if_pos q] at e
                       have r := ih (k + 1) (.int (nI (roN l (k + 1)))) (.int (nI 1)) (by omega)
                       rw [e] at r
                       exact r)
                    | (have q : kmB l (k + 1) (kbN l k) = false := decide_eq_false (by omega)
                       rw [if_neg (by rw [q]; decide)] at e
                       have r := ih (k + 1) (.int (nI (roN l (k + 1)))) (.int (nI 0)) (by omega)
                       rw [e] at r
                       exact r))
               · first
                 | (exfalso; omega)
                 | (skip
                    refine ev_iload (i := 5) dX8_keeps_100 rfl ?_
                    refine ev_goto 106 dX8_keeps_102 (by decide) ?_
                    refine ev_istore_n (i := 3) dX8_keeps_106 rfl (by decide) rfl ?_
                    refine ev_incN dX8_keeps_107 (by rfl) (by decide) rfl ?_
                    refine ev_goto 25 dX8_keeps_110 (by decide) ?_
                    first
                    | (have q : kmB l (k + 1) (kbN l k) = true := decide_eq_true (by omega)
                       rw [if_pos q] at e
                       have r := ih (k + 1) (.int (nI (roN l (k + 1)))) (.int (nI 1)) (by omega)
                       rw [e] at r
                       exact r)
                    | (have q : kmB l (k + 1) (kbN l k) = false := decide_eq_false (by omega)
                       rw [if_neg (by rw [q]; decide)] at e
                       have r := ih (k + 1) (.int (nI (roN l (k + 1)))) (.int (nI 0)) (by omega)
                       rw [e] at r
                       exact r)))
          · first
            | (exfalso; omega)
            | (skip
               refine ev_iload (i := 4) dX8_keeps_88 rfl ?_
               refine ev_goto 94 dX8_keeps_90 (by decide) ?_
               refine ev_istore_n (i := 2) dX8_keeps_94 rfl (by decide) rfl ?_
               refine ev_iload (i := 6) dX8_keeps_95 rfl ?_
               refine ev_if_eqN 105 dX8_keeps_97 (by decide) (by omega) (fun b97 => ?_) (fun b97 => ?_)
               · first
                 | (exfalso; omega)
                 | (skip
                    refine ev_iload_n (i := 3) dX8_keeps_105 rfl rfl ?_
                    refine ev_istore_n (i := 3) dX8_keeps_106 rfl (by decide) rfl ?_
                    refine ev_incN dX8_keeps_107 (by rfl) (by decide) rfl ?_
                    refine ev_goto 25 dX8_keeps_110 (by decide) ?_
                    first
                    | (have q : kmB l (k + 1) (kbN l k) = true := decide_eq_true (by omega)
                       rw [if_pos q] at e
                       have r := ih (k + 1) (.int (nI (roN l (k + 1)))) (.int (nI 1)) (by omega)
                       rw [e] at r
                       exact r)
                    | (have q : kmB l (k + 1) (kbN l k) = false := decide_eq_false (by omega)
                       rw [if_neg (by rw [q]; decide)] at e
                       have r := ih (k + 1) (.int (nI (roN l (k + 1)))) (.int (nI 0)) (by omega)
                       rw [e] at r
                       exact r))
               · first
                 | (exfalso; omega)
                 | (skip
                    refine ev_iload (i := 5) dX8_keeps_100 rfl ?_
                    refine ev_goto 106 dX8_keeps_102 (by decide) ?_
                    refine ev_istore_n (i := 3) dX8_keeps_106 rfl (by decide) rfl ?_
                    refine ev_incN dX8_keeps_107 (by rfl) (by decide) rfl ?_
                    refine ev_goto 25 dX8_keeps_110 (by decide) ?_
                    first
                    | (have q : kmB l (k + 1) (kbN l k) = true := decide_eq_true (by omega)
                       rw [if_pos q] at e
                       have r := ih (k + 1) (.int (nI (roN l (k + 1)))) (.int (nI 1)) (by omega)
                       rw [e] at r
                       exact r)
                    | (have q : kmB l (k + 1) (kbN l k) = false := decide_eq_false (by omega)
                       rw [if_neg (by rw [q]; decide)] at e
                       have r := ih (k + 1) (.int (nI (roN l (k + 1)))) (.int (nI 0)) (by omega)
                       rw [e] at r
                       exact r)))
        · skip
          refine ev_iload (i := 5) dX8_keeps_58 rfl ?_
          refine ev_iload_n (i := 3) dX8_keeps_60 rfl rfl ?_
          refine ev_icmp_neN 80 dX8_keeps_61 (by decide) (by omega) (by omega) (fun b61 => ?_) (fun b61 => ?_)
          · skip
            refine ev_iconst (v := nI 0) dX8_keeps_80 rfl ?_
            refine ev_istore (i := 6) dX8_keeps_81 (by decide) rfl ?_
            refine ev_iload (i := 6) dX8_keeps_83 rfl ?_
            refine ev_if_eqN 93 dX8_keeps_85 (by decide) (by omega) (fun b85 => ?_) (fun b85 => ?_)
            · first
              | (exfalso; omega)
              | (skip
                 refine ev_iload_n (i := 2) dX8_keeps_93 rfl rfl ?_
                 refine ev_istore_n (i := 2) dX8_keeps_94 rfl (by decide) rfl ?_
                 refine ev_iload (i := 6) dX8_keeps_95 rfl ?_
                 refine ev_if_eqN 105 dX8_keeps_97 (by decide) (by omega) (fun b97 => ?_) (fun b97 => ?_)
                 · first
                   | (exfalso; omega)
                   | (skip
                      refine ev_iload_n (i := 3) dX8_keeps_105 rfl rfl ?_
                      refine ev_istore_n (i := 3) dX8_keeps_106 rfl (by decide) rfl ?_
                      refine ev_incN dX8_keeps_107 (by rfl) (by decide) rfl ?_
                      refine ev_goto 25 dX8_keeps_110 (by decide) ?_
                      first
                      | (have q : kmB l (k + 1) (kbN l k) = true := decide_eq_true (by omega)
                         rw [if_pos q] at e
                         have r := ih (k + 1) (.int (nI (roN l (k + 1)))) (.int (nI 1)) (by omega)
                         rw [e] at r
                         exact r)
                      | (have q : kmB l (k + 1) (kbN l k) = false := decide_eq_false (by omega)
                         rw [if_neg (by rw [q]; decide)] at e
                         have r := ih (k + 1) (.int (nI (roN l (k + 1)))) (.int (nI 0)) (by omega)
                         rw [e] at r
                         exact r))
                 · first
                   | (exfalso; omega)
                   | (skip
                      refine ev_iload (i := 5) dX8_keeps_100 rfl ?_
                      refine ev_goto 106 dX8_keeps_102 (by decide) ?_
                      refine ev_istore_n (i := 3) dX8_keeps_106 rfl (by decide) rfl ?_
                      refine ev_incN dX8_keeps_107 (by rfl) (by decide) rfl ?_
                      refine ev_goto 25 dX8_keeps_110 (by decide) ?_
                      first
                      | (have q : kmB l (k + 1) (kbN l k) = true := decide_eq_true (by omega)
                         rw [if_pos q] at e
                         have r := ih (k + 1) (.int (nI (roN l (k + 1)))) (.int (nI 1)) (by omega)
                         rw [e] at r
                         exact r)
                      | (have q : kmB l (k + 1) (kbN l k) = false := decide_eq_false (by omega)
                         rw [if_neg (by rw [q]; decide)] at e
                         have r := ih (k + 1) (.int (nI (roN l (k + 1)))) (.int (nI 0)) (by omega)
                         rw [e] at r
                         exact r)))
            · first
              | (exfalso; omega)
              | (skip
                 refine ev_iload (i := 4) dX8_keeps_88 rfl ?_
                 refine ev_goto 94 dX8_keeps_90 (by decide) ?_
                 refine ev_istore_n (i := 2) dX8_keeps_94 rfl (by decide) rfl ?_
                 refine ev_iload (i := 6) dX8_keeps_95 rfl ?_
                 refine ev_if_eqN 105 dX8_keeps_97 (by decide) (by omega) (fun b97 => ?_) (fun b97 => ?_)
                 · first
                   | (exfalso; omega)
                   | (skip
                      refine ev_iload_n (i := 3) dX8_keeps_105 rfl rfl ?_
                      refine ev_istore_n (i := 3) dX8_keeps_106 rfl (by decide) rfl ?_
                      refine ev_incN dX8_keeps_107 (by rfl) (by decide) rfl ?_
                      refine ev_goto 25 dX8_keeps_110 (by decide) ?_
                      first
                      | (have q : kmB l (k + 1) (kbN l k) = true := decide_eq_true (by omega)
                         rw [if_pos q] at e
                         have r := ih (k + 1) (.int (nI (roN l (k + 1)))) (.int (nI 1)) (by omega)
                         rw [e] at r
                         exact r)
                      | (have q : kmB l (k + 1) (kbN l k) = false := decide_eq_false (by omega)
                         rw [if_neg (by rw [q]; decide)] at e
                         have r := ih (k + 1) (.int (nI (roN l (k + 1)))) (.int (nI 0)) (by omega)
                         rw [e] at r
                         exact r))
                 · first
                   | (exfalso; omega)
                   | (skip
                      refine ev_iload (i := 5) dX8_keeps_100 rfl ?_
                      refine ev_goto 106 dX8_keeps_102 (by decide) ?_
                      refine ev_istore_n (i := 3) dX8_keeps_106 rfl (by decide) rfl ?_
                      refine ev_incN dX8_keeps_107 (by rfl) (by decide) rfl ?_
                      refine ev_goto 25 dX8_keeps_110 (by decide) ?_
                      first
                      | (have q : kmB l (k + 1) (kbN l k) = true := decide_eq_true (by omega)
                         rw [if_pos q] at e
                         have r := ih (k + 1) (.int (nI (roN l (k + 1)))) (.int (nI 1)) (by omega)
                         rw [e] at r
                         exact r)
                      | (have q : kmB l (k + 1) (kbN l k) = false := decide_eq_false (by omega)
                         rw [if_neg (by rw [q]; decide)] at e
                         have r := ih (k + 1) (.int (nI (roN l (k + 1)))) (.int (nI 0)) (by omega)
                         rw [e] at r
                         exact r)))
          · skip
            refine ev_iload (i := 4) dX8_keeps_64 rfl ?_
            refine ev_S1 (μ1 := mX8_many) dX8_keeps_66 sX8_127 okX8_many (Nat.le_of_ble_eq_true rfl) (Nat.le_of_ble_eq_true rfl) ?_
            refine c_many (by omega) ?_
            refine ev_iload_n (i := 2) dX8_keeps_69 rfl rfl ?_
            refine ev_S1 (μ1 := mX8_many) dX8_keeps_70 sX8_127 okX8_many (Nat.le_of_ble_eq_true rfl) (Nat.le_of_ble_eq_true rfl) ?_
            refine c_many (by omega) ?_
            refine ev_icmp_geN 80 dX8_keeps_73 (by decide) (by omega) (by omega) (fun b73 => ?_) (fun b73 => ?_)
            · skip
              refine ev_iconst (v := nI 0) dX8_keeps_80 rfl ?_
              refine ev_istore (i := 6) dX8_keeps_81 (by decide) rfl ?_
              refine ev_iload (i := 6) dX8_keeps_83 rfl ?_
              refine ev_if_eqN 93 dX8_keeps_85 (by decide) (by omega) (fun b85 => ?_) (fun b85 => ?_)
              · first
                | (exfalso; omega)
                | (skip
                   refine ev_iload_n (i := 2) dX8_keeps_93 rfl rfl ?_
                   refine ev_istore_n (i := 2) dX8_keeps_94 rfl (by decide) rfl ?_
                   refine ev_iload (i := 6) dX8_keeps_95 rfl ?_
                   refine ev_if_eqN 105 dX8_keeps_97 (by decide) (by omega) (fun b97 => ?_) (fun b97 => ?_)
                   · first
                     | (exfalso; omega)
                     | (skip
                        refine ev_iload_n (i := 3) dX8_keeps_105 rfl rfl ?_
                        refine ev_istore_n (i := 3) dX8_keeps_106 rfl (by decide) rfl ?_
                        refine ev_incN dX8_keeps_107 (by rfl) (by decide) rfl ?_
                        refine ev_goto 25 dX8_keeps_110 (by decide) ?_
                        first
                        | (have q : kmB l (k + 1) (kbN l k) = true := decide_eq_true (by omega)
                           rw [if_pos q] at e
                           have r := ih (k + 1) (.int (nI (roN l (k + 1)))) (.int (nI 1)) (by omega)
                           rw [e] at r
                           exact r)
                        | (have q : kmB l (k + 1) (kbN l k) = false := decide_eq_false (by omega)
                           rw [if_neg (by rw [q]; decide)] at e
                           have r := ih (k + 1) (.int (nI (roN l (k + 1)))) (.int (nI 0)) (by omega)
                           rw [e] at r
                           exact r))
                   · first
                     | (exfalso; omega)
                     | (skip
                        refine ev_iload (i := 5) dX8_keeps_100 rfl ?_
                        refine ev_goto 106 dX8_keeps_102 (by decide) ?_
                        refine ev_istore_n (i := 3) dX8_keeps_106 rfl (by decide) rfl ?_
                        refine ev_incN dX8_keeps_107 (by rfl) (by decide) rfl ?_
                        refine ev_goto 25 dX8_keeps_110 (by decide) ?_
                        first
                        | (have q : kmB l (k + 1) (kbN l k) = true := decide_eq_true (by omega)
                           rw [if_pos q] at e
                           have r := ih (k + 1) (.int (nI (roN l (k + 1)))) (.int (nI 1)) (by omega)
                           rw [e] at r
                           exact r)
                        | (have q : kmB l (k + 1) (kbN l k) = false := decide_eq_false (by omega)
                           rw [if_neg (by rw [q]; decide)] at e
                           have r := ih (k + 1) (.int (nI (roN l (k + 1)))) (.int (nI 0)) (by omega)
                           rw [e] at r
                           exact r)))
              · first
                | (exfalso; omega)
                | (skip
                   refine ev_iload (i := 4) dX8_keeps_88 rfl ?_
                   refine ev_goto 94 dX8_keeps_90 (by decide) ?_
                   refine ev_istore_n (i := 2) dX8_keeps_94 rfl (by decide) rfl ?_
                   refine ev_iload (i := 6) dX8_keeps_95 rfl ?_
                   refine ev_if_eqN 105 dX8_keeps_97 (by decide) (by omega) (fun b97 => ?_) (fun b97 => ?_)
                   · first
                     | (exfalso; omega)
                     | (skip
                        refine ev_iload_n (i := 3) dX8_keeps_105 rfl rfl ?_
                        refine ev_istore_n (i := 3) dX8_keeps_106 rfl (by decide) rfl ?_
                        refine ev_incN dX8_keeps_107 (by rfl) (by decide) rfl ?_
                        refine ev_goto 25 dX8_keeps_110 (by decide) ?_
                        first
                        | (have q : kmB l (k + 1) (kbN l k) = true := decide_eq_true (by omega)
                           rw [if_pos q] at e
                           have r := ih (k + 1) (.int (nI (roN l (k + 1)))) (.int (nI 1)) (by omega)
                           rw [e] at r
                           exact r)
                        | (have q : kmB l (k + 1) (kbN l k) = false := decide_eq_false (by omega)
                           rw [if_neg (by rw [q]; decide)] at e
                           have r := ih (k + 1) (.int (nI (roN l (k + 1)))) (.int (nI 0)) (by omega)
                           rw [e] at r
                           exact r))
                   · first
                     | (exfalso; omega)
                     | (skip
                        refine ev_iload (i := 5) dX8_keeps_100 rfl ?_
                        refine ev_goto 106 dX8_keeps_102 (by decide) ?_
                        refine ev_istore_n (i := 3) dX8_keeps_106 rfl (by decide) rfl ?_
                        refine ev_incN dX8_keeps_107 (by rfl) (by decide) rfl ?_
                        refine ev_goto 25 dX8_keeps_110 (by decide) ?_
                        first
                        | (have q : kmB l (k + 1) (kbN l k) = true := decide_eq_true (by omega)
                           rw [if_pos q] at e
                           have r := ih (k + 1) (.int (nI (roN l (k + 1)))) (.int (nI 1)) (by omega)
                           rw [e] at r
                           exact r)
                        | (have q : kmB l (k + 1) (kbN l k) = false := decide_eq_false (by omega)
                           rw [if_neg (by rw [q]; decide)] at e
                           have r := ih (k + 1) (.int (nI (roN l (k + 1)))) (.int (nI 0)) (by omega)
                           rw [e] at r
                           exact r)))
            · skip
              refine ev_iconst (v := nI 1) dX8_keeps_76 rfl ?_
              refine ev_goto 81 dX8_keeps_77 (by decide) ?_
              refine ev_istore (i := 6) dX8_keeps_81 (by decide) rfl ?_
              refine ev_iload (i := 6) dX8_keeps_83 rfl ?_
              refine ev_if_eqN 93 dX8_keeps_85 (by decide) (by omega) (fun b85 => ?_) (fun b85 => ?_)
              · first
                | (exfalso; omega)
                | (skip
                   refine ev_iload_n (i := 2) dX8_keeps_93 rfl rfl ?_
                   refine ev_istore_n (i := 2) dX8_keeps_94 rfl (by decide) rfl ?_
                   refine ev_iload (i := 6) dX8_keeps_95 rfl ?_
                   refine ev_if_eqN 105 dX8_keeps_97 (by decide) (by omega) (fun b97 => ?_) (fun b97 => ?_)
                   · first
                     | (exfalso; omega)
                     | (skip
                        refine ev_iload_n (i := 3) dX8_keeps_105 rfl rfl ?_
                        refine ev_istore_n (i := 3) dX8_keeps_106 rfl (by decide) rfl ?_
                        refine ev_incN dX8_keeps_107 (by rfl) (by decide) rfl ?_
                        refine ev_goto 25 dX8_keeps_110 (by decide) ?_
                        first
                        | (have q : kmB l (k + 1) (kbN l k) = true := decide_eq_true (by omega)
                           rw [if_pos q] at e
                           have r := ih (k + 1) (.int (nI (roN l (k + 1)))) (.int (nI 1)) (by omega)
                           rw [e] at r
                           exact r)
                        | (have q : kmB l (k + 1) (kbN l k) = false := decide_eq_false (by omega)
                           rw [if_neg (by rw [q]; decide)] at e
                           have r := ih (k + 1) (.int (nI (roN l (k + 1)))) (.int (nI 0)) (by omega)
                           rw [e] at r
                           exact r))
                   · first
                     | (exfalso; omega)
                     | (skip
                        refine ev_iload (i := 5) dX8_keeps_100 rfl ?_
                        refine ev_goto 106 dX8_keeps_102 (by decide) ?_
                        refine ev_istore_n (i := 3) dX8_keeps_106 rfl (by decide) rfl ?_
                        refine ev_incN dX8_keeps_107 (by rfl) (by decide) rfl ?_
                        refine ev_goto 25 dX8_keeps_110 (by decide) ?_
                        first
                        | (have q : kmB l (k + 1) (kbN l k) = true := decide_eq_true (by omega)
                           rw [if_pos q] at e
                           have r := ih (k + 1) (.int (nI (roN l (k + 1)))) (.int (nI 1)) (by omega)
                           rw [e] at r
                           exact r)
                        | (have q : kmB l (k + 1) (kbN l k) = false := decide_eq_false (by omega)
                           rw [if_neg (by rw [q]; decide)] at e
                           have r := ih (k + 1) (.int (nI (roN l (k + 1)))) (.int (nI 0)) (by omega)
                           rw [e] at r
                           exact r)))
              · first
                | (exfalso; omega)
                | (skip
                   refine ev_iload (i := 4) dX8_keeps_88 rfl ?_
                   refine ev_goto 94 dX8_keeps_90 (by decide) ?_
                   refine ev_istore_n (i := 2) dX8_keeps_94 rfl (by decide) rfl ?_
                   refine ev_iload (i := 6) dX8_keeps_95 rfl ?_
                   refine ev_if_eqN 105 dX8_keeps_97 (by decide) (by omega) (fun b97 => ?_) (fun b97 => ?_)
                   · first
                     | (exfalso; omega)
                     | (skip
                        refine ev_iload_n (i := 3) dX8_keeps_105 rfl rfl ?_
                        refine ev_istore_n (i := 3) dX8_keeps_106 rfl (by decide) rfl ?_
                        refine ev_incN dX8_keeps_107 (by rfl) (by decide) rfl ?_
                        refine ev_goto 25 dX8_keeps_110 (by decide) ?_
                        first
                        | (have q : kmB l (k + 1) (kbN l k) = true := decide_eq_true (by omega)
                           rw [if_pos q] at e
                           have r := ih (k + 1) (.int (nI (roN l (k + 1)))) (.int (nI 1)) (by omega)
                           rw [e] at r
                           exact r)
                        | (have q : kmB l (k + 1) (kbN l k) = false := decide_eq_false (by omega)
                           rw [if_neg (by rw [q]; decide)] at e
                           have r := ih (k + 1) (.int (nI (roN l (k + 1)))) (.int (nI 0)) (by omega)
                           rw [e] at r
                           exact r))
                   · first
                     | (exfalso; omega)
                     | (skip
                        refine ev_iload (i := 5) dX8_keeps_100 rfl ?_
                        refine ev_goto 106 dX8_keeps_102 (by decide) ?_
                        refine ev_istore_n (i := 3) dX8_keeps_106 rfl (by decide) rfl ?_
                        refine ev_incN dX8_keeps_107 (by rfl) (by decide) rfl ?_
                        refine ev_goto 25 dX8_keeps_110 (by decide) ?_
                        first
                        | (have q : kmB l (k + 1) (kbN l k) = true := decide_eq_true (by omega)
                           rw [if_pos q] at e
                           have r := ih (k + 1) (.int (nI (roN l (k + 1)))) (.int (nI 1)) (by omega)
                           rw [e] at r
                           exact r)
                        | (have q : kmB l (k + 1) (kbN l k) = false := decide_eq_false (by omega)
                           rw [if_neg (by rw [q]; decide)] at e
                           have r := ih (k + 1) (.int (nI (roN l (k + 1)))) (.int (nI 0)) (by omega)
                           rw [e] at r
                           exact r)))
    have e0 := lp (2 ^ l.1 - 1) 0 .null .null (by omega)
    rw [show kbN l 0 = 0 from rfl, roN_0] at e0
    refine ev_iload_n (i := 1) dX8_keeps_5 rfl rfl ?_
    refine ev_i2l dX8_keeps_6 rfl ?_
    refine ev_lconst dX8_keeps_7 rfl ?_
    refine ev_lconst dX8_keeps_8 rfl ?_
    refine ev_S3 (μ1 := mX8_in) dX8_keeps_9 sX8_67 okX8_in (Nat.le_of_ble_eq_true rfl) (Nat.le_of_ble_eq_true rfl) ?_
    refine c_in ?_
    refine ev_top (i_op (congrArg bI ((in_r (n := 2) rfl).trans hx))) ?_
    refine ev_if_neB 18 dX8_keeps_12 (by decide) (fun b12 => ?_) (fun b12 => by cases b12)
    refine ev_iconst (v := nI 0) dX8_keeps_18 rfl ?_
    refine ev_istore_n (i := 2) dX8_keeps_19 rfl (by decide) rfl ?_
    refine ev_iconst (v := nI 0) dX8_keeps_20 rfl ?_
    refine ev_istore_n (i := 3) dX8_keeps_21 rfl (by decide) rfl ?_
    refine ev_iconst (v := nI 1) dX8_keeps_22 rfl ?_
    refine ev_istore (i := 4) dX8_keeps_23 (by decide) rfl ?_
    exact e0
  | false =>
    rw [hx, if_neg (by decide)] at hp
    refine ev_iload_n (i := 1) dX8_keeps_5 rfl rfl ?_
    refine ev_i2l dX8_keeps_6 rfl ?_
    refine ev_lconst dX8_keeps_7 rfl ?_
    refine ev_lconst dX8_keeps_8 rfl ?_
    refine ev_S3 (μ1 := mX8_in) dX8_keeps_9 sX8_67 okX8_in (Nat.le_of_ble_eq_true rfl) (Nat.le_of_ble_eq_true rfl) ?_
    refine c_in ?_
    refine ev_top (i_op (congrArg bI ((in_r (n := 2) rfl).trans hx))) ?_
    refine ev_if_neB 18 dX8_keeps_12 (by decide) (fun b12 => by cases b12) (fun b12 => ?_)
    refine ev_bipush (v := (-2)) dX8_keeps_15 rfl ?_
    refine ev_reti dX8_keeps_17 rfl rfl ?_
    exact hp M0 (ag_rf M0 _ _) h
end MDU
