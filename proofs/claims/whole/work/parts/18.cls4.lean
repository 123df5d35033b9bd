section CLV
variable {M : mM} {P : Option Value → mM → Prop} {s : cs}
theorem C_rests {x y : Int32} (h : kC M s) (ho : cOk s) (hp : P (some (.int (a_rests s x y))) M) : Ev 88 7 mX7_rests none 0 [.ref 0, .int x, .int y, .null, .null, .null, .null, .null] [] M P := by
  obtain ⟨t, l, p, a, sl, v, sd⟩ := s
  obtain ⟨h0, h1, h2, h3, h11, h4, h5, h6, h7⟩ : kRt M sd ∧ kTx M t ∧ kLt M l ∧ kP M 8 p ∧ (∃ p, kP M 11 p) ∧ kAc M a ∧ kOv M v ∧ kSl M sl ∧ ∃ o, kTm M o := id h
  obtain ⟨o1, o2, o3, o4, o5, o6, o7⟩ : txOk t ∧ ltOk l ∧ pgOk p ∧ (∀ q ∈ a, pgOk q) ∧ a.length ≤ 14 ∧ (∀ i q, sl i = some q → pgOk q) ∧ ovOk v := ho
  have x2 := h2.1
  have hl6 : l.1 ≤ 6 := o2.1
  obtain ⟨f3, g3, x3, hf3, hg3⟩ := id h3
  have x3a := x3.1
  have h64 : 2 ^ l.1 ≤ 2 ^ 6 := pw_le hl6
  have h0p : 0 < 2 ^ l.1 := Nat.two_pow_pos _
  unfold kRt at h0
  unfold a_rests at hp
  cases hx : inR x l.1 with
  | true =>
    rw [if_pos hx] at hp
    obtain ⟨i, hi, rfl⟩ := inR_of hx (by omega)
    rw [n_cl (show i < 2 ^ 31 by omega)] at hp
    have hh := (o2.2 i hi).2.1
    cases hy : inR y 2 with
    | true =>
      rw [if_pos hy] at hp
      obtain ⟨w, hw, rfl⟩ := inR_of hy (by decide)
      rw [n_cl (by omega)] at hp
      have inner : ∀ (k d f m : Nat) (fo : Option Nat), d + k = 4 → f < 4 → m = cN (fun k => arB (l.2.2.1 i) (k / 4) (k % 4)) (4 * f + d) → fo = f1N (fun k => arB (l.2.2.1 i) (k / 4) (k % 4)) (fun k => 10 * (k / 4) + k % 4) (4 * f + d) →
          (∀ (lx : Value), Ev 88 7 mX7_rests none 44 [.ref 0, .int (nI i), .int (nI w), .int (nI (l.2.2.1 i)), .int (nI (cN (fun k => arB (l.2.2.1 i) (k / 4) (k % 4)) (4 * (f + 1)))), .int (oI (f1N (fun k => arB (l.2.2.1 i) (k / 4) (k % 4)) (fun k => 10 * (k / 4) + k % 4) (4 * (f + 1)))), .int (nI (f + 1)), lx] [] M P) →
          Ev 88 7 mX7_rests none 53 [.ref 0, .int (nI i), .int (nI w), .int (nI (l.2.2.1 i)), .int (nI m), .int (oI fo), .int (nI f), .int (nI d)] [] M P := by
        intro k
        induction k with
        | zero =>
          intro d f m fo hd hf em ef kk
          obtain rfl : d = 4 := by omega
          rw [show 4 * f + 4 = 4 * (f + 1) by omega] at em ef
          subst em ef
          refine ev_iload (i := 7) dX7_rests_53 rfl ?_
          refine ev_iconst (v := nI 3) dX7_rests_55 rfl ?_
          refine ev_icmp_gtN 101 dX7_rests_56 (by decide) (by omega) (by omega) (fun b56 => ?_) (fun b56 => by exfalso; omega)
          refine ev_incN dX7_rests_101 (by rfl) (by decide) rfl ?_
          refine ev_goto 44 dX7_rests_104 (by decide) ?_
          exact kk _
        | succ k ih =>
          intro d f m fo hd hf em ef kk
          have ediv : (4 * f + d) / 4 = f := by omega
          have emod : (4 * f + d) % 4 = d := by omega
          have ed1 : 4 * f + (d + 1) = 4 * f + d + 1 := by omega
          have hF : arB (l.2.2.1 i) f d = false → (fun k => arB (l.2.2.1 i) (k / 4) (k % 4)) (4 * f + d) = false := fun z => by show arB _ _ _ = _; rw [ediv, emod]; exact z
          have hT : arB (l.2.2.1 i) f d = true → (fun k => arB (l.2.2.1 i) (k / 4) (k % 4)) (4 * f + d) = true := fun z => by show arB _ _ _ = _; rw [ediv, emod]; exact z
          have fT : ∀ z, (f1N (fun k => arB (l.2.2.1 i) (k / 4) (k % 4)) (fun k => 10 * (k / 4) + k % 4) (4 * f + d)).getD (10 * f + d) = z → arB (l.2.2.1 i) f d = true → some z = f1N (fun k => arB (l.2.2.1 i) (k / 4) (k % 4)) (fun k => 10 * (k / 4) + k % 4) (4 * f + (d + 1)) := fun z hz q => by
            rw [ed1, ← f1N_t (p := fun k => arB (l.2.2.1 i) (k / 4) (k % 4)) (v := fun k => 10 * (k / 4) + k % 4) (hT q)]
            show some z = some (_)
            rw [ediv, emod, hz]
          have mT : arB (l.2.2.1 i) f d = true → m + 1 = cN (fun k => arB (l.2.2.1 i) (k / 4) (k % 4)) (4 * f + (d + 1)) := fun q => by rw [ed1, em]; exact cN_t (hT q)
          cases fo with
          | none =>
            refine ev_iload (i := 7) dX7_rests_53 rfl ?_
            refine ev_iconst (v := nI 3) dX7_rests_55 rfl ?_
            refine ev_icmp_gtN 101 dX7_rests_56 (by decide) (by omega) (by omega) (fun b56 => by exfalso; omega) (fun b56 => ?_)
            refine ev_iload_n (i := 3) dX7_rests_59 rfl rfl ?_
            refine ev_iload (i := 6) dX7_rests_60 rfl ?_
            refine ev_iload (i := 7) dX7_rests_62 rfl ?_
            refine ev_S3 (μ1 := mX7_isAtRest) dX7_rests_64 sX7_212 okX7_isAtRest (Nat.le_of_ble_eq_true rfl) (Nat.le_of_ble_eq_true rfl) ?_
            refine c_isAtRest (by omega) (by omega) (by omega) ?_
            refine ev_if_eqB 95 dX7_rests_67 (by decide) (fun b67 => ?_) (fun b67 => ?_)
            · skip
              refine ev_incN dX7_rests_95 (by rfl) (by decide) rfl ?_
              refine ev_goto 53 dX7_rests_98 (by decide) ?_
              first
              | (have q : arB (l.2.2.1 i) f d = false := b67
                 exact ih (d + 1) f m none (by omega) hf (by rw [ed1]; exact em.trans (cN_f (hF q))) (by rw [ed1]; exact ef.trans (f1N_f (hF q))) kk)
              | exact ih (d + 1) f (m + 1) (some (10 * f + d)) (by omega) hf (mT b67) (fT _ (by rw [← ef]; rfl) b67) kk
            · skip
              refine ev_incN dX7_rests_70 (by rfl) (by decide) rfl ?_
              refine ev_iload (i := 5) dX7_rests_73 rfl ?_
              refine ev_bipush (v := (-9)) dX7_rests_75 rfl ?_
              refine ev_icmp_ne 91 dX7_rests_77 (by decide) (fun b77 => absurd rfl b77) (fun b77 => ?_)
              refine ev_bipush (v := nI 10) dX7_rests_80 rfl ?_
              refine ev_iload (i := 6) dX7_rests_82 rfl ?_
              refine ev_imulN dX7_rests_84 ?_
              refine ev_iload (i := 7) dX7_rests_85 rfl ?_
              refine ev_iaddN dX7_rests_87 ?_
              refine ev_goto 93 dX7_rests_88 (by decide) ?_
              refine ev_istore (i := 5) dX7_rests_93 (by decide) rfl ?_
              refine ev_incN dX7_rests_95 (by rfl) (by decide) rfl ?_
              refine ev_goto 53 dX7_rests_98 (by decide) ?_
              first
              | (have q : arB (l.2.2.1 i) f d = false := b67
                 exact ih (d + 1) f m none (by omega) hf (by rw [ed1]; exact em.trans (cN_f (hF q))) (by rw [ed1]; exact ef.trans (f1N_f (hF q))) kk)
              | exact ih (d + 1) f (m + 1) (some (10 * f + d)) (by omega) hf (mT b67) (fT _ (by rw [← ef]; rfl) b67) kk
          | some y0 =>
            have hy0 : y0 < 40 := f1N_b (fun z hz => by show 10 * (z / 4) + z % 4 < 40; omega) ef.symm
            have hy9 : ¬ oI (some y0) = (-9) := n_9 (by omega)
            refine ev_iload (i := 7) dX7_rests_53 rfl ?_
            refine ev_iconst (v := nI 3) dX7_rests_55 rfl ?_
            refine ev_icmp_gtN 101 dX7_rests_56 (by decide) (by omega) (by omega) (fun b56 => by exfalso; omega) (fun b56 => ?_)
            refine ev_iload_n (i := 3) dX7_rests_59 rfl rfl ?_
            refine ev_iload (i := 6) dX7_rests_60 rfl ?_
            refine ev_iload (i := 7) dX7_rests_62 rfl ?_
            refine ev_S3 (μ1 := mX7_isAtRest) dX7_rests_64 sX7_212 okX7_isAtRest (Nat.le_of_ble_eq_true rfl) (Nat.le_of_ble_eq_true rfl) ?_
            refine c_isAtRest (by omega) (by omega) (by omega) ?_
            refine ev_if_eqB 95 dX7_rests_67 (by decide) (fun b67 => ?_) (fun b67 => ?_)
            · skip
              refine ev_incN dX7_rests_95 (by rfl) (by decide) rfl ?_
              refine ev_goto 53 dX7_rests_98 (by decide) ?_
              first
              | (have q : arB (l.2.2.1 i) f d = false := b67
                 exact ih (d + 1) f m (some y0) (by omega) hf (by rw [ed1]; exact em.trans (cN_f (hF q))) (by rw [ed1]; exact ef.trans (f1N_f (hF q))) kk)
              | exact ih (d + 1) f (m + 1) (some y0) (by omega) hf (mT b67) (fT _ (by rw [← ef]; rfl) b67) kk
            · skip
              refine ev_incN dX7_rests_70 (by rfl) (by decide) rfl ?_
              refine ev_iload (i := 5) dX7_rests_73 rfl ?_
              refine ev_bipush (v := (-9)) dX7_rests_75 rfl ?_
              refine ev_icmp_ne 91 dX7_rests_77 (by decide) (fun b77 => ?_) (fun b77 => absurd b77 hy9)
              refine ev_iload (i := 5) dX7_rests_91 rfl ?_
              refine ev_istore (i := 5) dX7_rests_93 (by decide) rfl ?_
              refine ev_incN dX7_rests_95 (by rfl) (by decide) rfl ?_
              refine ev_goto 53 dX7_rests_98 (by decide) ?_
              first
              | (have q : arB (l.2.2.1 i) f d = false := b67
                 exact ih (d + 1) f m (some y0) (by omega) hf (by rw [ed1]; exact em.trans (cN_f (hF q))) (by rw [ed1]; exact ef.trans (f1N_f (hF q))) kk)
              | exact ih (d + 1) f (m + 1) (some y0) (by omega) hf (mT b67) (fT _ (by rw [← ef]; rfl) b67) kk
      have outer : ∀ (k f : Nat) (lx : Value), f + k = 4 → Ev 88 7 mX7_rests none 44 [.ref 0, .int (nI i), .int (nI w), .int (nI (l.2.2.1 i)), .int (nI (cN (fun k => arB (l.2.2.1 i) (k / 4) (k % 4)) (4 * f))), .int (oI (f1N (fun k => arB (l.2.2.1 i) (k / 4) (k % 4)) (fun k => 10 * (k / 4) + k % 4) (4 * f))), .int (nI f), lx] [] M P := by
        intro k
        induction k with
        | zero =>
          intro f lx hf
          obtain rfl : f = 4 := by omega
          by_cases hw0 : w = 0
          · rw [if_pos hw0] at hp
            refine ev_iload (i := 6) dX7_rests_44 rfl ?_
            refine ev_iconst (v := nI 3) dX7_rests_46 rfl ?_
            refine ev_icmp_gtN 107 dX7_rests_47 (by decide) (by omega) (by omega) (fun b47 => ?_) (fun b47 => by exfalso; omega)
            refine ev_iload_n (i := 2) dX7_rests_107 rfl rfl ?_
            refine ev_if_neN 116 dX7_rests_108 (by decide) (by omega) (fun b108 => by exfalso; omega) (fun b108 => ?_)
            refine ev_iload (i := 4) dX7_rests_111 rfl ?_
            refine ev_goto 118 dX7_rests_113 (by decide) ?_
            refine ev_reti dX7_rests_118 rfl rfl ?_
            exact hp
          · rw [if_neg hw0] at hp
            refine ev_iload (i := 6) dX7_rests_44 rfl ?_
            refine ev_iconst (v := nI 3) dX7_rests_46 rfl ?_
            refine ev_icmp_gtN 107 dX7_rests_47 (by decide) (by omega) (by omega) (fun b47 => ?_) (fun b47 => by exfalso; omega)
            refine ev_iload_n (i := 2) dX7_rests_107 rfl rfl ?_
            refine ev_if_neN 116 dX7_rests_108 (by decide) (by omega) (fun b108 => ?_) (fun b108 => by exfalso; omega)
            refine ev_iload (i := 5) dX7_rests_116 rfl ?_
            refine ev_reti dX7_rests_118 rfl rfl ?_
            exact hp
        | succ k ih =>
          intro f lx hf
          refine ev_iload (i := 6) dX7_rests_44 rfl ?_
          refine ev_iconst (v := nI 3) dX7_rests_46 rfl ?_
          refine ev_icmp_gtN 107 dX7_rests_47 (by decide) (by omega) (by omega) (fun b47 => by exfalso; omega) (fun b47 => ?_)
          refine ev_iconst (v := nI 0) dX7_rests_50 rfl ?_
          refine ev_istore (i := 7) dX7_rests_51 (by decide) rfl ?_
          exact inner 4 0 f _ _ (by omega) (by omega) rfl rfl (fun lx => ih (f + 1) lx (by omega))
      refine ev_aload_n (i := 0) dX7_rests_0 rfl rfl ?_
      refine ev_getfield dX7_rests_1 fX7_19 (by first | omega | decide) (by first | assumption | (simp (disch := omega) only [mu_s, mu_n]; first | assumption | rfl)) (by rfl) ?_
      refine ev_iload_n (i := 1) dX7_rests_4 rfl rfl ?_
      refine ev_V1 (μ1 := mX1_has) dX7_rests_5 sX7_108 okX1_has (by first | omega | decide) (by first | assumption | (simp (disch := omega) only [mu_s, mu_n]; first | assumption | rfl)) (Nat.le_of_ble_eq_true rfl) (Nat.le_of_ble_eq_true rfl) ?_
      refine c_X1_has h2 o2 ?_
      refine ev_if_neB 13 dX7_rests_8 (by decide) (fun b8 => ?_) (fun b8 => by rw [hx] at b8; cases b8)
      refine ev_iload_n (i := 2) dX7_rests_13 rfl rfl ?_
      refine ev_if_ltN 22 dX7_rests_14 (by decide) (by omega) (fun b14 => by exfalso; omega) (fun b14 => ?_)
      refine ev_iload_n (i := 2) dX7_rests_17 rfl rfl ?_
      refine ev_iconst (v := nI 1) dX7_rests_18 rfl ?_
      refine ev_icmp_leN 25 dX7_rests_19 (by decide) (by omega) (by omega) (fun b19 => ?_) (fun b19 => by exfalso; omega)
      refine ev_aload_n (i := 0) dX7_rests_25 rfl rfl ?_
      refine ev_getfield dX7_rests_26 fX7_19 (by first | omega | decide) (by first | assumption | (simp (disch := omega) only [mu_s, mu_n]; first | assumption | rfl)) (by rfl) ?_
      refine ev_iload_n (i := 1) dX7_rests_29 rfl rfl ?_
      refine ev_V1 (μ1 := mX1_handOf) dX7_rests_30 sX7_114 okX1_handOf (by first | omega | decide) (by first | assumption | (simp (disch := omega) only [mu_s, mu_n]; first | assumption | rfl)) (Nat.le_of_ble_eq_true rfl) (Nat.le_of_ble_eq_true rfl) ?_
      refine c_X1_handOf h2 o2 hi ?_
      refine ev_istore_n (i := 3) dX7_rests_33 rfl (by decide) rfl ?_
      refine ev_iconst (v := nI 0) dX7_rests_34 rfl ?_
      refine ev_istore (i := 4) dX7_rests_35 (by decide) rfl ?_
      refine ev_bipush (v := (-9)) dX7_rests_37 rfl ?_
      refine ev_istore (i := 5) dX7_rests_39 (by decide) rfl ?_
      refine ev_iconst (v := nI 0) dX7_rests_41 rfl ?_
      refine ev_istore (i := 6) dX7_rests_42 (by decide) rfl ?_
      exact outer 4 0 _ (by omega)
    | false =>
      rw [hy, if_neg (by decide)] at hp
      rcases inR_no hy (by decide) with hx1 | ⟨hx1, hx2⟩
      · skip
        refine ev_aload_n (i := 0) dX7_rests_0 rfl rfl ?_
        refine ev_getfield dX7_rests_1 fX7_19 (by first | omega | decide) (by first | assumption | (simp (disch := omega) only [mu_s, mu_n]; first | assumption | rfl)) (by rfl) ?_
        refine ev_iload_n (i := 1) dX7_rests_4 rfl rfl ?_
        refine ev_V1 (μ1 := mX1_has) dX7_rests_5 sX7_108 okX1_has (by first | omega | decide) (by first | assumption | (simp (disch := omega) only [mu_s, mu_n]; first | assumption | rfl)) (Nat.le_of_ble_eq_true rfl) (Nat.le_of_ble_eq_true rfl) ?_
        refine c_X1_has h2 o2 ?_
        refine ev_if_neB 13 dX7_rests_8 (by decide) (fun b8 => ?_) (fun b8 => by rw [hx] at b8; cases b8)
        refine ev_iload_n (i := 2) dX7_rests_13 rfl rfl ?_
        refine ev_if_lt 22 dX7_rests_14 (by decide) (fun b14 => ?_) (fun b14 => absurd hx1 b14)
        refine ev_bipush (v := (-2)) dX7_rests_22 rfl ?_
        refine ev_reti dX7_rests_24 rfl rfl ?_
        exact hp
      · have hx3 : ¬ y ≤ nI 1 := Int32.not_le.mpr (nI_lt_of_le hx2 (by decide))
        refine ev_aload_n (i := 0) dX7_rests_0 rfl rfl ?_
        refine ev_getfield dX7_rests_1 fX7_19 (by first | omega | decide) (by first | assumption | (simp (disch := omega) only [mu_s, mu_n]; first | assumption | rfl)) (by rfl) ?_
        refine ev_iload_n (i := 1) dX7_rests_4 rfl rfl ?_
        refine ev_V1 (μ1 := mX1_has) dX7_rests_5 sX7_108 okX1_has (by first | omega | decide) (by first | assumption | (simp (disch := omega) only [mu_s, mu_n]; first | assumption | rfl)) (Nat.le_of_ble_eq_true rfl) (Nat.le_of_ble_eq_true rfl) ?_
        refine c_X1_has h2 o2 ?_
        refine ev_if_neB 13 dX7_rests_8 (by decide) (fun b8 => ?_) (fun b8 => by rw [hx] at b8; cases b8)
        refine ev_iload_n (i := 2) dX7_rests_13 rfl rfl ?_
        refine ev_if_lt 22 dX7_rests_14 (by decide) (fun b14 => absurd b14 hx1) (fun b14 => ?_)
        refine ev_iload_n (i := 2) dX7_rests_17 rfl rfl ?_
        refine ev_iconst (v := nI 1) dX7_rests_18 rfl ?_
        refine ev_icmp_le 25 dX7_rests_19 (by decide) (fun b19 => absurd b19 hx3) (fun b19 => ?_)
        refine ev_bipush (v := (-2)) dX7_rests_22 rfl ?_
        refine ev_reti dX7_rests_24 rfl rfl ?_
        exact hp
  | false =>
    rw [hx, if_neg (by decide)] at hp
    refine ev_aload_n (i := 0) dX7_rests_0 rfl rfl ?_
    refine ev_getfield dX7_rests_1 fX7_19 (by first | omega | decide) (by first | assumption | (simp (disch := omega) only [mu_s, mu_n]; first | assumption | rfl)) (by rfl) ?_
    refine ev_iload_n (i := 1) dX7_rests_4 rfl rfl ?_
    refine ev_V1 (μ1 := mX1_has) dX7_rests_5 sX7_108 okX1_has (by first | omega | decide) (by first | assumption | (simp (disch := omega) only [mu_s, mu_n]; first | assumption | rfl)) (Nat.le_of_ble_eq_true rfl) (Nat.le_of_ble_eq_true rfl) ?_
    refine c_X1_has h2 o2 ?_
    refine ev_if_neB 13 dX7_rests_8 (by decide) (fun b8 => by rw [hx] at b8; cases b8) (fun b8 => ?_)
    refine ev_iconst (v := (-1)) dX7_rests_11 rfl ?_
    refine ev_reti dX7_rests_12 rfl rfl ?_
    exact hp
theorem and_le2 (a b : Nat) : a &&& b ≤ a := Nat.and_le_left
theorem C_chance {x y : Int32} {u : Bool} (h : kC M s) (ho : cOk s) (hc4 : ∀ l, l < s.2.1.1 → cnt (s.2.1.2.2.2.2 l) ≤ 4 ∧ ∀ z, cnt (s.2.1.2.2.2.2 l) + cnt (andn (z &&& 15 * 2 ^ s.2.1.2.1 l) (s.2.1.2.2.2.2 l)) ≤ 4) (hp : P (some (.int (a_chance s x y u))) M) : Ev 88 7 mX7_chance none 0 [.ref 0, .int x, .int y, .int (bI u), .null, .null, .null, .null] [] M P := by
  obtain ⟨t, l, p, a, sl, v, sd⟩ := s
  obtain ⟨h0, h1, h2, h3, h11, h4, h5, h6, h7⟩ : kRt M sd ∧ kTx M t ∧ kLt M l ∧ kP M 8 p ∧ (∃ p, kP M 11 p) ∧ kAc M a ∧ kOv M v ∧ kSl M sl ∧ ∃ o, kTm M o := id h
  obtain ⟨o1, o2, o3, o4, o5, o6, o7⟩ : txOk t ∧ ltOk l ∧ pgOk p ∧ (∀ q ∈ a, pgOk q) ∧ a.length ≤ 14 ∧ (∀ i q, sl i = some q → pgOk q) ∧ ovOk v := ho
  have x2 := h2.1
  have hl6 : l.1 ≤ 6 := o2.1
  obtain ⟨f3, g3, x3, hf3, hg3⟩ := id h3
  have x3a := x3.1
  have h64 : 2 ^ l.1 ≤ 2 ^ 6 := pw_le hl6
  have h0p : 0 < 2 ^ l.1 := Nat.two_pow_pos _
  unfold kRt at h0
  unfold a_chance at hp
  have hlt : shN p.1 0 < 4096 := shN_lt _ _
  cases hx : inR x l.1 with
  | true =>
    rw [if_pos hx] at hp
    obtain ⟨i, hi, rfl⟩ := inR_of hx (by omega)
    rw [n_cl (show i < 2 ^ 31 by omega)] at hp
    obtain ⟨hc4, hc5⟩ := hc4 i hi
    have hc5 := hc5 (shN p.1 0)
    have hc4 : cnt (l.2.2.2.2 i) ≤ 4 := hc4
    have hc5 : cnt (l.2.2.2.2 i) + cnt (andn (shN p.1 0 &&& 15 * 2 ^ l.2.1 i) (l.2.2.2.2 i)) ≤ 4 := hc5
    have hcl := (ltOk_cells o2 hi).1
    have hA := andn_le (l.2.2.2.2 i) (shN p.1 0 &&& 15 * 2 ^ l.2.1 i)
    have hB := andn_le (shN p.1 0 &&& 15 * 2 ^ l.2.1 i) (l.2.2.2.2 i)
    have hB2 := and_le2 (shN p.1 0) (15 * 2 ^ l.2.1 i)
    cases hy : inR y 11 with
    | true =>
      rw [if_pos hy] at hp
      obtain ⟨w, hw, rfl⟩ := inR_of hy (by decide)
      rw [n_cl (by omega)] at hp
      by_cases hz : andn (l.2.2.2.2 i) (shN p.1 0 &&& 15 * 2 ^ l.2.1 i) = 0
      · unfold frQ chF at hp
        rw [if_pos hz] at hp
        have b1 : (10 - w) ^ cnt (l.2.2.2.2 i) ≤ 10 ^ 4 := Nat.le_trans (Nat.pow_le_pow_left (by omega) _) (Nat.pow_le_pow_right (by decide) hc4)
        have b2 : w ^ cnt (andn (shN p.1 0 &&& 15 * 2 ^ l.2.1 i) (l.2.2.2.2 i)) ≤ 10 ^ 4 := Nat.le_trans (Nat.pow_le_pow_left (by omega) _) (Nat.pow_le_pow_right (by decide) (by omega))
        have b3 : 10 ^ (cnt (l.2.2.2.2 i) + cnt (andn (shN p.1 0 &&& 15 * 2 ^ l.2.1 i) (l.2.2.2.2 i))) ≤ 10 ^ 4 := Nat.pow_le_pow_right (by decide) hc5
        have b4 : 0 < 10 ^ (cnt (l.2.2.2.2 i) + cnt (andn (shN p.1 0 &&& 15 * 2 ^ l.2.1 i) (l.2.2.2.2 i))) := Nat.pow_pos (by decide)
        have b5 := Nat.mul_le_mul b1 b2
        refine ev_aload_n (i := 0) dX7_chance_0 rfl rfl ?_
        refine ev_getfield dX7_chance_1 fX7_19 (by first | omega | decide) (by first | assumption | (simp (disch := omega) only [mu_s, mu_n]; first | assumption | rfl)) (by rfl) ?_
        refine ev_iload_n (i := 1) dX7_chance_4 rfl rfl ?_
        refine ev_V1 (μ1 := mX1_has) dX7_chance_5 sX7_108 okX1_has (by first | omega | decide) (by first | assumption | (simp (disch := omega) only [mu_s, mu_n]; first | assumption | rfl)) (Nat.le_of_ble_eq_true rfl) (Nat.le_of_ble_eq_true rfl) ?_
        refine c_X1_has h2 o2 ?_
        refine ev_if_neB 13 dX7_chance_8 (by decide) (fun b8 => ?_) (fun b8 => by rw [hx] at b8; cases b8)
        refine ev_iload_n (i := 2) dX7_chance_13 rfl rfl ?_
        refine ev_if_ltN 23 dX7_chance_14 (by decide) (by omega) (fun b14 => by exfalso; omega) (fun b14 => ?_)
        refine ev_iload_n (i := 2) dX7_chance_17 rfl rfl ?_
        refine ev_bipush (v := nI 10) dX7_chance_18 rfl ?_
        refine ev_icmp_leN 26 dX7_chance_20 (by decide) (by omega) (by omega) (fun b20 => ?_) (fun b20 => by exfalso; omega)
        refine ev_aload_n (i := 0) dX7_chance_26 rfl rfl ?_
        refine ev_getfield dX7_chance_27 fX7_26 (by first | omega | decide) (by first | assumption | (simp (disch := omega) only [mu_s, mu_n]; first | assumption | rfl)) (by rfl) ?_
        refine ev_iconst (v := nI 0) dX7_chance_30 rfl ?_
        refine ev_V1 (μ1 := mX3_shownIn) dX7_chance_31 sX7_93 okX3_shownIn (by first | omega | decide) (by first | assumption | (simp (disch := omega) only [mu_s, mu_n]; first | assumption | rfl)) (Nat.le_of_ble_eq_true rfl) (Nat.le_of_ble_eq_true rfl) ?_
        refine q_shownIn (by omega) h3 o3 (by decide) ?_
        refine ev_aload_n (i := 0) dX7_chance_34 rfl rfl ?_
        refine ev_getfield dX7_chance_35 fX7_19 (by first | omega | decide) (by first | assumption | (simp (disch := omega) only [mu_s, mu_n]; first | assumption | rfl)) (by rfl) ?_
        refine ev_iload_n (i := 1) dX7_chance_38 rfl rfl ?_
        refine ev_V1 (μ1 := mX1_windowOf) dX7_chance_39 sX7_216 okX1_windowOf (by first | omega | decide) (by first | assumption | (simp (disch := omega) only [mu_s, mu_n]; first | assumption | rfl)) (Nat.le_of_ble_eq_true rfl) (Nat.le_of_ble_eq_true rfl) ?_
        refine c_X1_windowOf h2 o2 hi ?_
        refine ev_iandN dX7_chance_42 ?_
        refine ev_istore (i := 4) dX7_chance_43 (by decide) rfl ?_
        refine ev_aload_n (i := 0) dX7_chance_45 rfl rfl ?_
        refine ev_getfield dX7_chance_46 fX7_19 (by first | omega | decide) (by first | assumption | (simp (disch := omega) only [mu_s, mu_n]; first | assumption | rfl)) (by rfl) ?_
        refine ev_iload_n (i := 1) dX7_chance_49 rfl rfl ?_
        refine ev_V1 (μ1 := mX1_cellsOf) dX7_chance_50 sX7_120 okX1_cellsOf (by first | omega | decide) (by first | assumption | (simp (disch := omega) only [mu_s, mu_n]; first | assumption | rfl)) (Nat.le_of_ble_eq_true rfl) (Nat.le_of_ble_eq_true rfl) ?_
        refine c_X1_cellsOf h2 o2 hi ?_
        refine ev_istore (i := 5) dX7_chance_53 (by decide) rfl ?_
        refine ev_iload (i := 5) dX7_chance_55 rfl ?_
        refine ev_iload (i := 4) dX7_chance_57 rfl ?_
        refine ev_iconst (v := (-1)) dX7_chance_59 rfl ?_
        refine ev_ixor dX7_chance_60 ?_
        refine ev_iand dX7_chance_61 ?_
        refine ev_top (i_op (andn_nI _ _)) ?_
        refine ev_if_eqN 72 dX7_chance_62 (by decide) (by omega) (fun b62 => ?_) (fun b62 => by exfalso; omega)
        refine ev_iload (i := 5) dX7_chance_72 rfl ?_
        refine ev_S1 (μ1 := mJ6_bitCount_0f7a4) dX7_chance_74 sX7_144 okJ6_bitCount_0f7a4 (Nat.le_of_ble_eq_true rfl) (Nat.le_of_ble_eq_true rfl) ?_
        refine c_bitCount (by omega) ?_
        refine ev_istore (i := 6) dX7_chance_77 (by decide) rfl ?_
        refine ev_iload (i := 4) dX7_chance_79 rfl ?_
        refine ev_iload (i := 5) dX7_chance_81 rfl ?_
        refine ev_iconst (v := (-1)) dX7_chance_83 rfl ?_
        refine ev_ixor dX7_chance_84 ?_
        refine ev_iand dX7_chance_85 ?_
        refine ev_top (i_op (andn_nI _ _)) ?_
        refine ev_S1 (μ1 := mJ6_bitCount_0f7a4) dX7_chance_86 sX7_144 okJ6_bitCount_0f7a4 (Nat.le_of_ble_eq_true rfl) (Nat.le_of_ble_eq_true rfl) ?_
        refine c_bitCount (by omega) ?_
        refine ev_istore (i := 7) dX7_chance_89 (by decide) rfl ?_
        refine ev_bipush (v := nI 10) dX7_chance_91 rfl ?_
        refine ev_iload_n (i := 2) dX7_chance_93 rfl rfl ?_
        refine ev_isubN dX7_chance_94 (by omega) ?_
        refine ev_iload (i := 6) dX7_chance_95 rfl ?_
        refine ev_S2 (μ1 := mX7_power) dX7_chance_97 sX7_179 okX7_power (Nat.le_of_ble_eq_true rfl) (Nat.le_of_ble_eq_true rfl) ?_
        refine c_power (by omega) ?_
        refine ev_iload_n (i := 2) dX7_chance_100 rfl rfl ?_
        refine ev_iload (i := 7) dX7_chance_101 rfl ?_
        refine ev_S2 (μ1 := mX7_power) dX7_chance_103 sX7_179 okX7_power (Nat.le_of_ble_eq_true rfl) (Nat.le_of_ble_eq_true rfl) ?_
        refine c_power (by omega) ?_
        refine ev_imulN dX7_chance_106 ?_
        refine ev_bipush (v := nI 10) dX7_chance_107 rfl ?_
        refine ev_iload (i := 6) dX7_chance_109 rfl ?_
        refine ev_iload (i := 7) dX7_chance_111 rfl ?_
        refine ev_iaddN dX7_chance_113 ?_
        refine ev_S2 (μ1 := mX7_power) dX7_chance_114 sX7_179 okX7_power (Nat.le_of_ble_eq_true rfl) (Nat.le_of_ble_eq_true rfl) ?_
        refine c_power (by omega) ?_
        refine ev_iload_n (i := 3) dX7_chance_117 rfl rfl ?_
        refine ev_S3 (μ1 := mX7_leastTerms) dX7_chance_118 sX7_199 okX7_leastTerms (Nat.le_of_ble_eq_true rfl) (Nat.le_of_ble_eq_true rfl) ?_
        refine c_leastTerms (by omega) (by omega) b4 ?_
        refine ev_reti dX7_chance_121 rfl rfl ?_
        exact hp
      · unfold frQ chF at hp
        rw [if_neg hz] at hp
        refine ev_aload_n (i := 0) dX7_chance_0 rfl rfl ?_
        refine ev_getfield dX7_chance_1 fX7_19 (by first | omega | decide) (by first | assumption | (simp (disch := omega) only [mu_s, mu_n]; first | assumption | rfl)) (by rfl) ?_
        refine ev_iload_n (i := 1) dX7_chance_4 rfl rfl ?_
        refine ev_V1 (μ1 := mX1_has) dX7_chance_5 sX7_108 okX1_has (by first | omega | decide) (by first | assumption | (simp (disch := omega) only [mu_s, mu_n]; first | assumption | rfl)) (Nat.le_of_ble_eq_true rfl) (Nat.le_of_ble_eq_true rfl) ?_
        refine c_X1_has h2 o2 ?_
        refine ev_if_neB 13 dX7_chance_8 (by decide) (fun b8 => ?_) (fun b8 => by rw [hx] at b8; cases b8)
        refine ev_iload_n (i := 2) dX7_chance_13 rfl rfl ?_
        refine ev_if_ltN 23 dX7_chance_14 (by decide) (by omega) (fun b14 => by exfalso; omega) (fun b14 => ?_)
        refine ev_iload_n (i := 2) dX7_chance_17 rfl rfl ?_
        refine ev_bipush (v := nI 10) dX7_chance_18 rfl ?_
        refine ev_icmp_leN 26 dX7_chance_20 (by decide) (by omega) (by omega) (fun b20 => ?_) (fun b20 => by exfalso; omega)
        refine ev_aload_n (i := 0) dX7_chance_26 rfl rfl ?_
        refine ev_getfield dX7_chance_27 fX7_26 (by first | omega | decide) (by first | assumption | (simp (disch := omega) only [mu_s, mu_n]; first | assumption | rfl)) (by rfl) ?_
        refine ev_iconst (v := nI 0) dX7_chance_30 rfl ?_
        refine ev_V1 (μ1 := mX3_shownIn) dX7_chance_31 sX7_93 okX3_shownIn (by first | omega | decide) (by first | assumption | (simp (disch := omega) only [mu_s, mu_n]; first | assumption | rfl)) (Nat.le_of_ble_eq_true rfl) (Nat.le_of_ble_eq_true rfl) ?_
        refine q_shownIn (by omega) h3 o3 (by decide) ?_
        refine ev_aload_n (i := 0) dX7_chance_34 rfl rfl ?_
        refine ev_getfield dX7_chance_35 fX7_19 (by first | omega | decide) (by first | assumption | (simp (disch := omega) only [mu_s, mu_n]; first | assumption | rfl)) (by rfl) ?_
        refine ev_iload_n (i := 1) dX7_chance_38 rfl rfl ?_
        refine ev_V1 (μ1 := mX1_windowOf) dX7_chance_39 sX7_216 okX1_windowOf (by first | omega | decide) (by first | assumption | (simp (disch := omega) only [mu_s, mu_n]; first | assumption | rfl)) (Nat.le_of_ble_eq_true rfl) (Nat.le_of_ble_eq_true rfl) ?_
        refine c_X1_windowOf h2 o2 hi ?_
        refine ev_iandN dX7_chance_42 ?_
        refine ev_istore (i := 4) dX7_chance_43 (by decide) rfl ?_
        refine ev_aload_n (i := 0) dX7_chance_45 rfl rfl ?_
        refine ev_getfield dX7_chance_46 fX7_19 (by first | omega | decide) (by first | assumption | (simp (disch := omega) only [mu_s, mu_n]; first | assumption | rfl)) (by rfl) ?_
        refine ev_iload_n (i := 1) dX7_chance_49 rfl rfl ?_
        refine ev_V1 (μ1 := mX1_cellsOf) dX7_chance_50 sX7_120 okX1_cellsOf (by first | omega | decide) (by first | assumption | (simp (disch := omega) only [mu_s, mu_n]; first | assumption | rfl)) (Nat.le_of_ble_eq_true rfl) (Nat.le_of_ble_eq_true rfl) ?_
        refine c_X1_cellsOf h2 o2 hi ?_
        refine ev_istore (i := 5) dX7_chance_53 (by decide) rfl ?_
        refine ev_iload (i := 5) dX7_chance_55 rfl ?_
        refine ev_iload (i := 4) dX7_chance_57 rfl ?_
        refine ev_iconst (v := (-1)) dX7_chance_59 rfl ?_
        refine ev_ixor dX7_chance_60 ?_
        refine ev_iand dX7_chance_61 ?_
        refine ev_top (i_op (andn_nI _ _)) ?_
        refine ev_if_eqN 72 dX7_chance_62 (by decide) (by omega) (fun b62 => by exfalso; omega) (fun b62 => ?_)
        refine ev_iconst (v := nI 0) dX7_chance_65 rfl ?_
        refine ev_iconst (v := nI 1) dX7_chance_66 rfl ?_
        refine ev_iload_n (i := 3) dX7_chance_67 rfl rfl ?_
        refine ev_S3 (μ1 := mX7_leastTerms) dX7_chance_68 sX7_199 okX7_leastTerms (Nat.le_of_ble_eq_true rfl) (Nat.le_of_ble_eq_true rfl) ?_
        refine c_leastTerms (by omega) (by omega) (by decide) ?_
        refine ev_reti dX7_chance_71 rfl rfl ?_
        exact hp
    | false =>
      rw [hy, if_neg (by decide)] at hp
      rcases inR_no hy (by decide) with hx1 | ⟨hx1, hx2⟩
      · skip
        refine ev_aload_n (i := 0) dX7_chance_0 rfl rfl ?_
        refine ev_getfield dX7_chance_1 fX7_19 (by first | omega | decide) (by first | assumption | (simp (disch := omega) only [mu_s, mu_n]; first | assumption | rfl)) (by rfl) ?_
        refine ev_iload_n (i := 1) dX7_chance_4 rfl rfl ?_
        refine ev_V1 (μ1 := mX1_has) dX7_chance_5 sX7_108 okX1_has (by first | omega | decide) (by first | assumption | (simp (disch := omega) only [mu_s, mu_n]; first | assumption | rfl)) (Nat.le_of_ble_eq_true rfl) (Nat.le_of_ble_eq_true rfl) ?_
        refine c_X1_has h2 o2 ?_
        refine ev_if_neB 13 dX7_chance_8 (by decide) (fun b8 => ?_) (fun b8 => by rw [hx] at b8; cases b8)
        refine ev_iload_n (i := 2) dX7_chance_13 rfl rfl ?_
        refine ev_if_lt 23 dX7_chance_14 (by decide) (fun b14 => ?_) (fun b14 => absurd hx1 b14)
        refine ev_bipush (v := (-2)) dX7_chance_23 rfl ?_
        refine ev_reti dX7_chance_25 rfl rfl ?_
        exact hp
      · have hx3 : ¬ y ≤ nI 10 := Int32.not_le.mpr (nI_lt_of_le hx2 (by decide))
        refine ev_aload_n (i := 0) dX7_chance_0 rfl rfl ?_
        refine ev_getfield dX7_chance_1 fX7_19 (by first | omega | decide) (by first | assumption | (simp (disch := omega) only [mu_s, mu_n]; first | assumption | rfl)) (by rfl) ?_
        refine ev_iload_n (i := 1) dX7_chance_4 rfl rfl ?_
        refine ev_V1 (μ1 := mX1_has) dX7_chance_5 sX7_108 okX1_has (by first | omega | decide) (by first | assumption | (simp (disch := omega) only [mu_s, mu_n]; first | assumption | rfl)) (Nat.le_of_ble_eq_true rfl) (Nat.le_of_ble_eq_true rfl) ?_
        refine c_X1_has h2 o2 ?_
        refine ev_if_neB 13 dX7_chance_8 (by decide) (fun b8 => ?_) (fun b8 => by rw [hx] at b8; cases b8)
        refine ev_iload_n (i := 2) dX7_chance_13 rfl rfl ?_
        refine ev_if_lt 23 dX7_chance_14 (by decide) (fun b14 => absurd b14 hx1) (fun b14 => ?_)
        refine ev_iload_n (i := 2) dX7_chance_17 rfl rfl ?_
        refine ev_bipush (v := nI 10) dX7_chance_18 rfl ?_
        refine ev_icmp_le 26 dX7_chance_20 (by decide) (fun b20 => absurd b20 hx3) (fun b20 => ?_)
        refine ev_bipush (v := (-2)) dX7_chance_23 rfl ?_
        refine ev_reti dX7_chance_25 rfl rfl ?_
        exact hp
  | false =>
    rw [hx, if_neg (by decide)] at hp
    refine ev_aload_n (i := 0) dX7_chance_0 rfl rfl ?_
    refine ev_getfield dX7_chance_1 fX7_19 (by first | omega | decide) (by first | assumption | (simp (disch := omega) only [mu_s, mu_n]; first | assumption | rfl)) (by rfl) ?_
    refine ev_iload_n (i := 1) dX7_chance_4 rfl rfl ?_
    refine ev_V1 (μ1 := mX1_has) dX7_chance_5 sX7_108 okX1_has (by first | omega | decide) (by first | assumption | (simp (disch := omega) only [mu_s, mu_n]; first | assumption | rfl)) (Nat.le_of_ble_eq_true rfl) (Nat.le_of_ble_eq_true rfl) ?_
    refine c_X1_has h2 o2 ?_
    refine ev_if_neB 13 dX7_chance_8 (by decide) (fun b8 => by rw [hx] at b8; cases b8) (fun b8 => ?_)
    refine ev_iconst (v := (-1)) dX7_chance_11 rfl ?_
    refine ev_reti dX7_chance_12 rfl rfl ?_
    exact hp
theorem C_seed {x : Int64} (h : kC M s) (ho : cOk s) (hp : ∀ M1, ag M M1 0 72 → kC M1 (n_seed s x) → P (some (.long s.2.2.2.2.2.2)) M1) : Ev 88 7 mX7_seed none 0 [.ref 0, .long x, .null, .null, .null] [] M P := by
  obtain ⟨t, l, p, a, sl, v, sd⟩ := s
  obtain ⟨h0, h1, h2, h3, h11, h4, h5, h6, h7⟩ : kRt M sd ∧ kTx M t ∧ kLt M l ∧ kP M 8 p ∧ (∃ p, kP M 11 p) ∧ kAc M a ∧ kOv M v ∧ kSl M sl ∧ ∃ o, kTm M o := id h
  obtain ⟨o1, o2, o3, o4, o5, o6, o7⟩ : txOk t ∧ ltOk l ∧ pgOk p ∧ (∀ q ∈ a, pgOk q) ∧ a.length ≤ 14 ∧ (∀ i q, sl i = some q → pgOk q) ∧ ovOk v := ho
  have x2 := h2.1
  have hl6 : l.1 ≤ 6 := o2.1
  obtain ⟨f3, g3, x3, hf3, hg3⟩ := id h3
  have x3a := x3.1
  have h64 : 2 ^ l.1 ≤ 2 ^ 6 := pw_le hl6
  have h0p : 0 < 2 ^ l.1 := Nat.two_pow_pos _
  unfold kRt at h0
  refine ev_aload_n (i := 0) dX7_seed_0 rfl rfl ?_
  refine ev_getfield dX7_seed_1 fX7_61 (by first | omega | decide) (by first | assumption | (simp (disch := omega) only [mu_s, mu_n]; first | assumption | rfl)) (by rfl) ?_
  refine ev_lstore_n (i := 3) dX7_seed_4 rfl (by decide) rfl ?_
  refine ev_aload_n (i := 0) dX7_seed_5 rfl rfl ?_
  refine ev_lload_n (i := 1) dX7_seed_6 rfl rfl ?_
  refine ev_putJ dX7_seed_7 fwX7_61 (by first | omega | decide) (by first | assumption | (simp (disch := omega) only [mu_s, mu_n]; first | assumption | rfl)) (Nat.le_of_ble_eq_true rfl) ?_
  refine ev_lload_n (i := 3) dX7_seed_10 rfl rfl ?_
  refine ev_retl dX7_seed_11 rfl ?_
  exact hp _ (ag_mu (ag_rf M _ _) (by omega) (by omega)) (kC_sd h (ag_mu (ag_rf M _ _) (by omega) (by omega)) (mu_s _ _ _))
theorem C_keep {x : Int32} (h : kC M s) (ho : cOk s) (hp : ∀ M1, ag M M1 0 72 → kC M1 (n_keep s x) → P (some (.int (a_keep s x))) M1) : Ev 88 7 mX7_keep none 0 [.ref 0, .int x] [] M P := by
  obtain ⟨t, l, p, a, sl, v, sd⟩ := s
  obtain ⟨h0, h1, h2, h3, h11, h4, h5, h6, h7⟩ : kRt M sd ∧ kTx M t ∧ kLt M l ∧ kP M 8 p ∧ (∃ p, kP M 11 p) ∧ kAc M a ∧ kOv M v ∧ kSl M sl ∧ ∃ o, kTm M o := id h
  obtain ⟨o1, o2, o3, o4, o5, o6, o7⟩ : txOk t ∧ ltOk l ∧ pgOk p ∧ (∀ q ∈ a, pgOk q) ∧ a.length ≤ 14 ∧ (∀ i q, sl i = some q → pgOk q) ∧ ovOk v := ho
  have x2 := h2.1
  have hl6 : l.1 ≤ 6 := o2.1
  obtain ⟨f3, g3, x3, hf3, hg3⟩ := id h3
  have x3a := x3.1
  have h64 : 2 ^ l.1 ≤ 2 ^ 6 := pw_le hl6
  have h0p : 0 < 2 ^ l.1 := Nat.two_pow_pos _
  unfold kRt at h0
  obtain ⟨fl, g, x6, -⟩ := id h6
  cases hx : inR x 2 with
  | true =>
    obtain ⟨i, hi, rfl⟩ := inR_of hx (by decide)
    have hcl : (nI i).toNatClampNeg = i := n_cl (by omega)
    have e1 : a_keep (t, l, p, a, sl, v, sd) (nI i) = p.2.2 := by unfold a_keep; rw [if_pos hx]
    have e2 : n_keep (t, l, p, a, sl, v, sd) (nI i) = (t, l, p, a, (fun j => if j = i then some p else sl j), v, sd) := by unfold n_keep; rw [if_pos hx, hcl]
    rw [e1, e2] at hp
    refine ev_iload_n (i := 1) dX7_keep_0 rfl rfl ?_
    refine ev_if_ltN 9 dX7_keep_1 (by decide) (by omega) (fun b1 => by exfalso; omega) (fun b1 => ?_)
    refine ev_iload_n (i := 1) dX7_keep_4 rfl rfl ?_
    refine ev_iconst (v := nI 2) dX7_keep_5 rfl ?_
    refine ev_icmp_ltN 11 dX7_keep_6 (by decide) (by omega) (by omega) (fun b6 => ?_) (fun b6 => by exfalso; omega)
    refine ev_aload_n (i := 0) dX7_keep_11 rfl rfl ?_
    refine ev_getfield dX7_keep_12 fX7_50 (by first | omega | decide) (by first | assumption | (simp (disch := omega) only [mu_s, mu_n]; first | assumption | rfl)) (by rfl) ?_
    refine ev_iload_n (i := 1) dX7_keep_15 rfl rfl ?_
    refine ev_aload_n (i := 0) dX7_keep_16 rfl rfl ?_
    refine ev_getfield dX7_keep_17 fX7_26 (by first | omega | decide) (by first | assumption | (simp (disch := omega) only [mu_s, mu_n]; first | assumption | rfl)) (by rfl) ?_
    refine ev_V2 (μ1 := mX4_store) dX7_keep_20 sX7_232 okX4_store (by first | omega | decide) (by first | assumption | (simp (disch := omega) only [mu_s, mu_n]; first | assumption | rfl)) (Nat.le_of_ble_eq_true rfl) (Nat.le_of_ble_eq_true rfl) ?_
    refine q_store h6 hi h3 (fun M1 ha hk => ?_)
    have y0 := (ha 0 (by omega)).trans h0
    have y3 := (ha 8 (by omega)).trans x3a
    refine ev_aload_n (i := 0) dX7_keep_23 rfl rfl ?_
    refine ev_getfield dX7_keep_24 fX7_26 (by first | omega | decide) (by first | assumption | (simp (disch := omega) only [mu_s, mu_n]; first | assumption | rfl)) (by rfl) ?_
    refine ev_getfield dX7_keep_27 fX7_83 (by first | omega | decide) (by first | assumption | (simp (disch := omega) only [mu_s, mu_n]; first | assumption | rfl)) (by rfl) ?_
    refine ev_reti dX7_keep_30 rfl rfl ?_
    exact hp M1 (ag_wd ha) (kC_sl h ha hk)
  | false =>
    have e1 : a_keep (t, l, p, a, sl, v, sd) x = (-1) := by unfold a_keep; rw [hx]; rfl
    have e2 : n_keep (t, l, p, a, sl, v, sd) x = (t, l, p, a, sl, v, sd) := by unfold n_keep; rw [hx]; rfl
    rw [e1, e2] at hp
    rcases inR_no hx (by decide) with hx1 | ⟨hx1, hx2⟩
    · skip
      refine ev_iload_n (i := 1) dX7_keep_0 rfl rfl ?_
      refine ev_if_lt 9 dX7_keep_1 (by decide) (fun b1 => ?_) (fun b1 => absurd hx1 b1)
      refine ev_iconst (v := (-1)) dX7_keep_9 rfl ?_
      refine ev_reti dX7_keep_10 rfl rfl ?_
      exact hp M (ag_rf M _ _) h
    · have hx3 : ¬ x < nI 2 := Int32.not_lt.mpr hx2
      refine ev_iload_n (i := 1) dX7_keep_0 rfl rfl ?_
      refine ev_if_lt 9 dX7_keep_1 (by decide) (fun b1 => absurd b1 hx1) (fun b1 => ?_)
      refine ev_iload_n (i := 1) dX7_keep_4 rfl rfl ?_
      refine ev_iconst (v := nI 2) dX7_keep_5 rfl ?_
      refine ev_icmp_lt 11 dX7_keep_6 (by decide) (fun b6 => absurd b6 hx3) (fun b6 => ?_)
      refine ev_iconst (v := (-1)) dX7_keep_9 rfl ?_
      refine ev_reti dX7_keep_10 rfl rfl ?_
      exact hp M (ag_rf M _ _) h
theorem C_again {x : Int32} (h : kC M s) (ho : cOk s) (hp : ∀ M1, ag M M1 0 72 → kC M1 (n_again s x) → P (some (.int (a_again s x))) M1) : Ev 88 7 mX7_again none 0 [.ref 0, .int x] [] M P := by
  obtain ⟨t, l, p, a, sl, v, sd⟩ := s
  obtain ⟨h0, h1, h2, h3, h11, h4, h5, h6, h7⟩ : kRt M sd ∧ kTx M t ∧ kLt M l ∧ kP M 8 p ∧ (∃ p, kP M 11 p) ∧ kAc M a ∧ kOv M v ∧ kSl M sl ∧ ∃ o, kTm M o := id h
  obtain ⟨o1, o2, o3, o4, o5, o6, o7⟩ : txOk t ∧ ltOk l ∧ pgOk p ∧ (∀ q ∈ a, pgOk q) ∧ a.length ≤ 14 ∧ (∀ i q, sl i = some q → pgOk q) ∧ ovOk v := ho
  have x2 := h2.1
  have hl6 : l.1 ≤ 6 := o2.1
  obtain ⟨f3, g3, x3, hf3, hg3⟩ := id h3
  have x3a := x3.1
  have h64 : 2 ^ l.1 ≤ 2 ^ 6 := pw_le hl6
  have h0p : 0 < 2 ^ l.1 := Nat.two_pow_pos _
  unfold kRt at h0
  obtain ⟨fl, g, x6, -⟩ := id h6
  obtain ⟨fi, g2, x4, -⟩ := id h4
  cases hx : inR x 2 with
  | true =>
    obtain ⟨i, hi, rfl⟩ := inR_of hx (by decide)
    have hcl : (nI i).toNatClampNeg = i := n_cl (by omega)
    cases hs : sl i with
    | none =>
      have e1 : a_again (t, l, p, a, sl, v, sd) (nI i) = (-3) := by unfold a_again; rw [if_pos hx, hcl]; show (match sl i with | none => _ | some p => _) = _; rw [hs]
      have e2 : n_again (t, l, p, a, sl, v, sd) (nI i) = (t, l, p, a, sl, v, sd) := by unfold n_again; rw [if_pos hx, hcl]; show (match sl i with | none => _ | some p => _) = _; rw [hs]
      rw [e1, e2] at hp
      refine ev_iload_n (i := 1) dX7_again_0 rfl rfl ?_
      refine ev_if_ltN 9 dX7_again_1 (by decide) (by omega) (fun b1 => by exfalso; omega) (fun b1 => ?_)
      refine ev_iload_n (i := 1) dX7_again_4 rfl rfl ?_
      refine ev_iconst (v := nI 2) dX7_again_5 rfl ?_
      refine ev_icmp_ltN 11 dX7_again_6 (by decide) (by omega) (by omega) (fun b6 => ?_) (fun b6 => by exfalso; omega)
      refine ev_aload_n (i := 0) dX7_again_11 rfl rfl ?_
      refine ev_getfield dX7_again_12 fX7_50 (by first | omega | decide) (by first | assumption | (simp (disch := omega) only [mu_s, mu_n]; first | assumption | rfl)) (by rfl) ?_
      refine ev_iload_n (i := 1) dX7_again_15 rfl rfl ?_
      refine ev_aload_n (i := 0) dX7_again_16 rfl rfl ?_
      refine ev_getfield dX7_again_17 fX7_26 (by first | omega | decide) (by first | assumption | (simp (disch := omega) only [mu_s, mu_n]; first | assumption | rfl)) (by rfl) ?_
      refine ev_V2 (μ1 := mX4_load) dX7_again_20 sX7_236 okX4_load (by first | omega | decide) (by first | assumption | (simp (disch := omega) only [mu_s, mu_n]; first | assumption | rfl)) (Nat.le_of_ble_eq_true rfl) (Nat.le_of_ble_eq_true rfl) ?_
      refine q_load0 h6 hi hs ?_
      refine ev_if_neB 29 dX7_again_23 (by decide) (fun b23 => by cases b23) (fun b23 => ?_)
      refine ev_bipush (v := (-3)) dX7_again_26 rfl ?_
      refine ev_reti dX7_again_28 rfl rfl ?_
      exact hp M (ag_rf M _ _) h
    | some q =>
      have e1 : a_again (t, l, p, a, sl, v, sd) (nI i) = q.2.2 := by unfold a_again; rw [if_pos hx, hcl]; show (match sl i with | none => _ | some p => _) = _; rw [hs]
      have e2 : n_again (t, l, p, a, sl, v, sd) (nI i) = (t, l, q, [], sl, v, sd) := by unfold n_again; rw [if_pos hx, hcl]; show (match sl i with | none => _ | some p => _) = _; rw [hs]
      rw [e1, e2] at hp
      refine ev_iload_n (i := 1) dX7_again_0 rfl rfl ?_
      refine ev_if_ltN 9 dX7_again_1 (by decide) (by omega) (fun b1 => by exfalso; omega) (fun b1 => ?_)
      refine ev_iload_n (i := 1) dX7_again_4 rfl rfl ?_
      refine ev_iconst (v := nI 2) dX7_again_5 rfl ?_
      refine ev_icmp_ltN 11 dX7_again_6 (by decide) (by omega) (by omega) (fun b6 => ?_) (fun b6 => by exfalso; omega)
      refine ev_aload_n (i := 0) dX7_again_11 rfl rfl ?_
      refine ev_getfield dX7_again_12 fX7_50 (by first | omega | decide) (by first | assumption | (simp (disch := omega) only [mu_s, mu_n]; first | assumption | rfl)) (by rfl) ?_
      refine ev_iload_n (i := 1) dX7_again_15 rfl rfl ?_
      refine ev_aload_n (i := 0) dX7_again_16 rfl rfl ?_
      refine ev_getfield dX7_again_17 fX7_26 (by first | omega | decide) (by first | assumption | (simp (disch := omega) only [mu_s, mu_n]; first | assumption | rfl)) (by rfl) ?_
      refine ev_V2 (μ1 := mX4_load) dX7_again_20 sX7_236 okX4_load (by first | omega | decide) (by first | assumption | (simp (disch := omega) only [mu_s, mu_n]; first | assumption | rfl)) (Nat.le_of_ble_eq_true rfl) (Nat.le_of_ble_eq_true rfl) ?_
      refine q_load1 h6 hi hs x3 (fun M1 ha hk => ?_)
      have y0 := (ha 0 (by omega)).trans h0
      have y4 := (ha 14 (by omega)).trans x4
      refine ev_if_neB 29 dX7_again_23 (by decide) (fun b23 => ?_) (fun b23 => by cases b23)
      refine ev_aload_n (i := 0) dX7_again_29 rfl rfl ?_
      refine ev_getfield dX7_again_30 fX7_36 (by first | omega | decide) (by first | assumption | (simp (disch := omega) only [mu_s, mu_n]; first | assumption | rfl)) (by rfl) ?_
      refine ev_V0 (μ1 := mX0_forget) dX7_again_33 sX7_86 okX0_forget (by first | omega | decide) (by first | assumption | (simp (disch := omega) only [mu_s, mu_n]; first | assumption | rfl)) (Nat.le_of_ble_eq_true rfl) (Nat.le_of_ble_eq_true rfl) ?_
      refine q_aForget (kAc_ag h4 ha (by omega)) (fun M2 ha2 hk2 => ?_)
      have z0 := (ha2 0 (by omega)).trans y0
      obtain ⟨f5, g5, z3, -⟩ := kP_ag hk ha2 (by omega)
      have z3a := z3.1
      refine ev_aload_n (i := 0) dX7_again_36 rfl rfl ?_
      refine ev_getfield dX7_again_37 fX7_26 (by first | omega | decide) (by first | assumption | (simp (disch := omega) only [mu_s, mu_n]; first | assumption | rfl)) (by rfl) ?_
      refine ev_getfield dX7_again_40 fX7_83 (by first | omega | decide) (by first | assumption | (simp (disch := omega) only [mu_s, mu_n]; first | assumption | rfl)) (by rfl) ?_
      refine ev_reti dX7_again_43 rfl rfl ?_
      exact hp M2 (ag_tr ha ha2) (kC_ac (kC_pg h ha hk) (ag_wd ha2) hk2)
  | false =>
    have e1 : a_again (t, l, p, a, sl, v, sd) x = (-1) := by unfold a_again; rw [hx]; rfl
    have e2 : n_again (t, l, p, a, sl, v, sd) x = (t, l, p, a, sl, v, sd) := by unfold n_again; rw [hx]; rfl
    rw [e1, e2] at hp
    rcases inR_no hx (by decide) with hx1 | ⟨hx1, hx2⟩
    · skip
      refine ev_iload_n (i := 1) dX7_again_0 rfl rfl ?_
      refine ev_if_lt 9 dX7_again_1 (by decide) (fun b1 => ?_) (fun b1 => absurd hx1 b1)
      refine ev_iconst (v := (-1)) dX7_again_9 rfl ?_
      refine ev_reti dX7_again_10 rfl rfl ?_
      exact hp M (ag_rf M _ _) h
    · have hx3 : ¬ x < nI 2 := Int32.not_lt.mpr hx2
      refine ev_iload_n (i := 1) dX7_again_0 rfl rfl ?_
      refine ev_if_lt 9 dX7_again_1 (by decide) (fun b1 => absurd b1 hx1) (fun b1 => ?_)
      refine ev_iload_n (i := 1) dX7_again_4 rfl rfl ?_
      refine ev_iconst (v := nI 2) dX7_again_5 rfl ?_
      refine ev_icmp_lt 11 dX7_again_6 (by decide) (fun b6 => absurd b6 hx3) (fun b6 => ?_)
      refine ev_iconst (v := (-1)) dX7_again_9 rfl ?_
      refine ev_reti dX7_again_10 rfl rfl ?_
      exact hp M (ag_rf M _ _) h
end CLV
