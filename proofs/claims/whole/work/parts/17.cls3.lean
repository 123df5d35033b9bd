section CLU
variable {M : mM} {P : Option Value → mM → Prop} {s : cs}
theorem n_9 {n : Nat} (h : n < 2 ^ 31) : ¬ nI n = (-9) := fun z => by
  have h2 : (nI n).toInt = (-9 : Int32).toInt := congrArg Int32.toInt z
  rw [nI_toInt h] at h2
  exact absurd h2 (by rw [show (-9 : Int32).toInt = -9 from rfl]; omega)
theorem C_crossed {x : Int32} (h : kC M s) (ho : cOk s) (hp : P (some (.int (a_crossed s x))) M) : Ev 88 7 mX7_crossed none 0 [.ref 0, .int x, .null, .null, .null, .null, .null] [] M P := by
  obtain ⟨t, l, p, a, sl, v, sd⟩ := s
  obtain ⟨h0, h1, h2, h3, h11, h4, h5, h6, h7⟩ : kRt M sd ∧ kTx M t ∧ kLt M l ∧ kP M 8 p ∧ (∃ p, kP M 11 p) ∧ kAc M a ∧ kOv M v ∧ kSl M sl ∧ ∃ o, kTm M o := id h
  obtain ⟨o1, o2, o3, o4, o5, o6, o7⟩ : txOk t ∧ ltOk l ∧ pgOk p ∧ (∀ q ∈ a, pgOk q) ∧ a.length ≤ 14 ∧ (∀ i q, sl i = some q → pgOk q) ∧ ovOk v := ho
  have x2 := h2.1
  have hl6 : l.1 ≤ 6 := o2.1
  obtain ⟨f3, g3, x3, hf3, hg3⟩ := id h3
  have x3a := x3.1
  have h64 : 2 ^ l.1 ≤ 2 ^ 6 := pw_le hl6
  have h0p : 0 < 2 ^ l.1 := Nat.two_pow_pos _
  unfold kRt at h0
  unfold a_crossed at hp
  cases hx : inR x 2 with
  | true =>
    rw [if_pos hx] at hp
    obtain ⟨w, hw, rfl⟩ := inR_of hx (by decide)
    rw [n_cl (by omega)] at hp
    have inner : ∀ (k j i : Nat) (st : Nat × Option Nat) (lx : Value), j + k = l.1 → i < l.1 → (∀ y, st.2 = some y → y < 1000) →
        (∀ (st1 : Nat × Option Nat) (lx ly : Value), st1 = crI l i k j st → (∀ y, st1.2 = some y → y < 1000) → Ev 88 7 mX7_crossed none 20 [.ref 0, .int (nI w), .int (nI st1.1), .int (oI st1.2), .int (nI (i + 1)), lx, ly] [] M P) →
        Ev 88 7 mX7_crossed none 38 [.ref 0, .int (nI w), .int (nI st.1), .int (oI st.2), .int (nI i), .int (nI j), lx] [] M P := by
      intro k
      induction k with
      | zero =>
        intro j i st lx hj hi h2 kk
        obtain rfl : j = l.1 := by omega
        refine ev_iload (i := 5) dX7_crossed_38 rfl ?_
        refine ev_aload_n (i := 0) dX7_crossed_40 rfl rfl ?_
        refine ev_getfield dX7_crossed_41 fX7_19 (by first | omega | decide) (by first | assumption | (simp (disch := omega) only [mu_s, mu_n]; first | assumption | rfl)) (by rfl) ?_
        refine ev_getfield dX7_crossed_44 fX7_90 (by first | omega | decide) (by first | assumption | (simp (disch := omega) only [mu_s, mu_n]; first | assumption | rfl)) (by rfl) ?_
        refine ev_icmp_geN 101 dX7_crossed_47 (by decide) (by omega) (by omega) (fun b47 => ?_) (fun b47 => by exfalso; omega)
        refine ev_incN dX7_crossed_101 (by rfl) (by decide) rfl ?_
        refine ev_goto 20 dX7_crossed_104 (by decide) ?_
        exact kk st _ _ rfl h2
      | succ k ih =>
        intro j i st lx hj hi hb kk
        cases q : thN l i j with
        | none =>
          have e : crI l i (k + 1) j st = crI l i k (j + 1) st := by
            show crI l i k (j + 1) (match thN l i j with | none => st | some x => (st.1 + 1, some (st.2.getD (100 * i + 10 * j + x)))) = _
            rw [q]
          refine ev_iload (i := 5) dX7_crossed_38 rfl ?_
          refine ev_aload_n (i := 0) dX7_crossed_40 rfl rfl ?_
          refine ev_getfield dX7_crossed_41 fX7_19 (by first | omega | decide) (by first | assumption | (simp (disch := omega) only [mu_s, mu_n]; first | assumption | rfl)) (by rfl) ?_
          refine ev_getfield dX7_crossed_44 fX7_90 (by first | omega | decide) (by first | assumption | (simp (disch := omega) only [mu_s, mu_n]; first | assumption | rfl)) (by rfl) ?_
          refine ev_icmp_geN 101 dX7_crossed_47 (by decide) (by omega) (by omega) (fun b47 => by exfalso; omega) (fun b47 => ?_)
          refine ev_aload_n (i := 0) dX7_crossed_50 rfl rfl ?_
          refine ev_iload (i := 4) dX7_crossed_51 rfl ?_
          refine ev_iload (i := 5) dX7_crossed_53 rfl ?_
          refine ev_V2 (μ1 := mX7_leastThird) dX7_crossed_55 sX7_193 okX7_leastThird (by first | omega | decide) (by first | assumption | (simp (disch := omega) only [mu_s, mu_n]; first | assumption | rfl)) (Nat.le_of_ble_eq_true rfl) (Nat.le_of_ble_eq_true rfl) ?_
          refine c_leastThird h0 h2 o2 hi (by omega) ?_
          rw [q]
          refine ev_istore (i := 6) dX7_crossed_58 (by decide) rfl ?_
          refine ev_iload (i := 6) dX7_crossed_60 rfl ?_
          refine ev_bipush (v := (-9)) dX7_crossed_62 rfl ?_
          refine ev_icmp_eq 95 dX7_crossed_64 (by decide) (fun b64 => ?_) (fun b64 => absurd rfl b64)
          refine ev_incN dX7_crossed_95 (by rfl) (by decide) rfl ?_
          refine ev_goto 38 dX7_crossed_98 (by decide) ?_
          exact ih _ _ st _ (by omega) hi hb (fun st1 lx ly e1 => kk st1 lx ly (e1.trans e.symm))
        | some x =>
          have hx6 : x < l.1 := by
            unfold thN at q
            have := (lf_some q).2.1
            omega
          have e : crI l i (k + 1) j st = crI l i k (j + 1) (st.1 + 1, some (st.2.getD (100 * i + 10 * j + x))) := by
            show crI l i k (j + 1) (match thN l i j with | none => st | some x => (st.1 + 1, some (st.2.getD (100 * i + 10 * j + x)))) = _
            rw [q]
          have hx9 : ¬ nI x = (-9) := n_9 (by omega)
          obtain ⟨m, fo⟩ := st
          cases fo with
          | none =>
            refine ev_iload (i := 5) dX7_crossed_38 rfl ?_
            refine ev_aload_n (i := 0) dX7_crossed_40 rfl rfl ?_
            refine ev_getfield dX7_crossed_41 fX7_19 (by first | omega | decide) (by first | assumption | (simp (disch := omega) only [mu_s, mu_n]; first | assumption | rfl)) (by rfl) ?_
            refine ev_getfield dX7_crossed_44 fX7_90 (by first | omega | decide) (by first | assumption | (simp (disch := omega) only [mu_s, mu_n]; first | assumption | rfl)) (by rfl) ?_
            refine ev_icmp_geN 101 dX7_crossed_47 (by decide) (by omega) (by omega) (fun b47 => by exfalso; omega) (fun b47 => ?_)
            refine ev_aload_n (i := 0) dX7_crossed_50 rfl rfl ?_
            refine ev_iload (i := 4) dX7_crossed_51 rfl ?_
            refine ev_iload (i := 5) dX7_crossed_53 rfl ?_
            refine ev_V2 (μ1 := mX7_leastThird) dX7_crossed_55 sX7_193 okX7_leastThird (by first | omega | decide) (by first | assumption | (simp (disch := omega) only [mu_s, mu_n]; first | assumption | rfl)) (Nat.le_of_ble_eq_true rfl) (Nat.le_of_ble_eq_true rfl) ?_
            refine c_leastThird h0 h2 o2 hi (by omega) ?_
            rw [q]
            show Ev _ _ _ _ _ _ (.int (nI x) :: []) _ _
            refine ev_istore (i := 6) dX7_crossed_58 (by decide) rfl ?_
            refine ev_iload (i := 6) dX7_crossed_60 rfl ?_
            refine ev_bipush (v := (-9)) dX7_crossed_62 rfl ?_
            refine ev_icmp_eq 95 dX7_crossed_64 (by decide) (fun b64 => absurd b64 hx9) (fun b64 => ?_)
            refine ev_incN dX7_crossed_67 (by rfl) (by decide) rfl ?_
            refine ev_iload_n (i := 3) dX7_crossed_70 rfl rfl ?_
            refine ev_bipush (v := (-9)) dX7_crossed_71 rfl ?_
            refine ev_icmp_ne 93 dX7_crossed_73 (by decide) (fun b73 => absurd rfl b73) (fun b73 => ?_)
            refine ev_bipush (v := nI 100) dX7_crossed_76 rfl ?_
            refine ev_iload (i := 4) dX7_crossed_78 rfl ?_
            refine ev_imulN dX7_crossed_80 ?_
            refine ev_bipush (v := nI 10) dX7_crossed_81 rfl ?_
            refine ev_iload (i := 5) dX7_crossed_83 rfl ?_
            refine ev_imulN dX7_crossed_85 ?_
            refine ev_iaddN dX7_crossed_86 ?_
            refine ev_iload (i := 6) dX7_crossed_87 rfl ?_
            refine ev_iaddN dX7_crossed_89 ?_
            refine ev_goto 94 dX7_crossed_90 (by decide) ?_
            refine ev_istore_n (i := 3) dX7_crossed_94 rfl (by decide) rfl ?_
            refine ev_incN dX7_crossed_95 (by rfl) (by decide) rfl ?_
            refine ev_goto 38 dX7_crossed_98 (by decide) ?_
            refine ih _ _ (m + 1, some (100 * i + 10 * j + x)) _ (by omega) hi (fun y hy => by cases hy; omega) (fun st1 lx ly e1 => kk st1 lx ly (e1.trans e.symm))
          | some y0 =>
            have hy0 := hb y0 rfl
            have hy9 : ¬ oI (some y0) = (-9) := n_9 (by omega)
            refine ev_iload (i := 5) dX7_crossed_38 rfl ?_
            refine ev_aload_n (i := 0) dX7_crossed_40 rfl rfl ?_
            refine ev_getfield dX7_crossed_41 fX7_19 (by first | omega | decide) (by first | assumption | (simp (disch := omega) only [mu_s, mu_n]; first | assumption | rfl)) (by rfl) ?_
            refine ev_getfield dX7_crossed_44 fX7_90 (by first | omega | decide) (by first | assumption | (simp (disch := omega) only [mu_s, mu_n]; first | assumption | rfl)) (by rfl) ?_
            refine ev_icmp_geN 101 dX7_crossed_47 (by decide) (by omega) (by omega) (fun b47 => by exfalso; omega) (fun b47 => ?_)
            refine ev_aload_n (i := 0) dX7_crossed_50 rfl rfl ?_
            refine ev_iload (i := 4) dX7_crossed_51 rfl ?_
            refine ev_iload (i := 5) dX7_crossed_53 rfl ?_
            refine ev_V2 (μ1 := mX7_leastThird) dX7_crossed_55 sX7_193 okX7_leastThird (by first | omega | decide) (by first | assumption | (simp (disch := omega) only [mu_s, mu_n]; first | assumption | rfl)) (Nat.le_of_ble_eq_true rfl) (Nat.le_of_ble_eq_true rfl) ?_
            refine c_leastThird h0 h2 o2 hi (by omega) ?_
            rw [q]
            show Ev _ _ _ _ _ _ (.int (nI x) :: []) _ _
            refine ev_istore (i := 6) dX7_crossed_58 (by decide) rfl ?_
            refine ev_iload (i := 6) dX7_crossed_60 rfl ?_
            refine ev_bipush (v := (-9)) dX7_crossed_62 rfl ?_
            refine ev_icmp_eq 95 dX7_crossed_64 (by decide) (fun b64 => absurd b64 hx9) (fun b64 => ?_)
            refine ev_incN dX7_crossed_67 (by rfl) (by decide) rfl ?_
            refine ev_iload_n (i := 3) dX7_crossed_70 rfl rfl ?_
            refine ev_bipush (v := (-9)) dX7_crossed_71 rfl ?_
            refine ev_icmp_ne 93 dX7_crossed_73 (by decide) (fun b73 => ?_) (fun b73 => absurd b73 hy9)
            refine ev_iload_n (i := 3) dX7_crossed_93 rfl rfl ?_
            refine ev_istore_n (i := 3) dX7_crossed_94 rfl (by decide) rfl ?_
            refine ev_incN dX7_crossed_95 (by rfl) (by decide) rfl ?_
            refine ev_goto 38 dX7_crossed_98 (by decide) ?_
            refine ih _ _ (m + 1, some y0) _ (by omega) hi (fun y hy => by cases hy; omega) (fun st1 lx ly e1 => kk st1 lx ly (e1.trans e.symm))
    have outer : ∀ (k i : Nat) (st : Nat × Option Nat) (lx ly : Value), i + k = l.1 → (∀ y, st.2 = some y → y < 1000) → crO l l.1 0 (0, none) = crO l k i st → Ev 88 7 mX7_crossed none 20 [.ref 0, .int (nI w), .int (nI st.1), .int (oI st.2), .int (nI i), lx, ly] [] M P := by
      intro k
      induction k with
      | zero =>
        intro i st lx ly hi hb e
        obtain rfl : i = l.1 := by omega
        rw [e] at hp
        by_cases hw0 : w = 0
        · rw [if_pos hw0] at hp
          refine ev_iload (i := 4) dX7_crossed_20 rfl ?_
          refine ev_aload_n (i := 0) dX7_crossed_22 rfl rfl ?_
          refine ev_getfield dX7_crossed_23 fX7_19 (by first | omega | decide) (by first | assumption | (simp (disch := omega) only [mu_s, mu_n]; first | assumption | rfl)) (by rfl) ?_
          refine ev_getfield dX7_crossed_26 fX7_90 (by first | omega | decide) (by first | assumption | (simp (disch := omega) only [mu_s, mu_n]; first | assumption | rfl)) (by rfl) ?_
          refine ev_icmp_geN 107 dX7_crossed_29 (by decide) (by omega) (by omega) (fun b29 => ?_) (fun b29 => by exfalso; omega)
          refine ev_iload_n (i := 1) dX7_crossed_107 rfl rfl ?_
          refine ev_if_neN 115 dX7_crossed_108 (by decide) (by omega) (fun b108 => by exfalso; omega) (fun b108 => ?_)
          refine ev_iload_n (i := 2) dX7_crossed_111 rfl rfl ?_
          refine ev_goto 116 dX7_crossed_112 (by decide) ?_
          refine ev_reti dX7_crossed_116 rfl rfl ?_
          exact hp
        · rw [if_neg hw0] at hp
          refine ev_iload (i := 4) dX7_crossed_20 rfl ?_
          refine ev_aload_n (i := 0) dX7_crossed_22 rfl rfl ?_
          refine ev_getfield dX7_crossed_23 fX7_19 (by first | omega | decide) (by first | assumption | (simp (disch := omega) only [mu_s, mu_n]; first | assumption | rfl)) (by rfl) ?_
          refine ev_getfield dX7_crossed_26 fX7_90 (by first | omega | decide) (by first | assumption | (simp (disch := omega) only [mu_s, mu_n]; first | assumption | rfl)) (by rfl) ?_
          refine ev_icmp_geN 107 dX7_crossed_29 (by decide) (by omega) (by omega) (fun b29 => ?_) (fun b29 => by exfalso; omega)
          refine ev_iload_n (i := 1) dX7_crossed_107 rfl rfl ?_
          refine ev_if_neN 115 dX7_crossed_108 (by decide) (by omega) (fun b108 => ?_) (fun b108 => by exfalso; omega)
          refine ev_iload_n (i := 3) dX7_crossed_115 rfl rfl ?_
          refine ev_reti dX7_crossed_116 rfl rfl ?_
          exact hp
      | succ k ih =>
        intro i st lx ly hi hb e
        refine ev_iload (i := 4) dX7_crossed_20 rfl ?_
        refine ev_aload_n (i := 0) dX7_crossed_22 rfl rfl ?_
        refine ev_getfield dX7_crossed_23 fX7_19 (by first | omega | decide) (by first | assumption | (simp (disch := omega) only [mu_s, mu_n]; first | assumption | rfl)) (by rfl) ?_
        refine ev_getfield dX7_crossed_26 fX7_90 (by first | omega | decide) (by first | assumption | (simp (disch := omega) only [mu_s, mu_n]; first | assumption | rfl)) (by rfl) ?_
        refine ev_icmp_geN 107 dX7_crossed_29 (by decide) (by omega) (by omega) (fun b29 => by exfalso; omega) (fun b29 => ?_)
        refine ev_iload (i := 4) dX7_crossed_32 rfl ?_
        refine ev_iconst (v := nI 1) dX7_crossed_34 rfl ?_
        refine ev_iaddN dX7_crossed_35 ?_
        refine ev_istore (i := 5) dX7_crossed_36 (by decide) rfl ?_
        refine inner (l.1 - (i + 1)) (i + 1) i st _ (by omega) (by omega) hb (fun st1 lx ly e1 e3 => ih (i + 1) st1 lx ly (by omega) e3 (e.trans (by rw [e1]; rfl)))
    refine ev_iload_n (i := 1) dX7_crossed_0 rfl rfl ?_
    refine ev_if_ltN 9 dX7_crossed_1 (by decide) (by omega) (fun b1 => by exfalso; omega) (fun b1 => ?_)
    refine ev_iload_n (i := 1) dX7_crossed_4 rfl rfl ?_
    refine ev_iconst (v := nI 1) dX7_crossed_5 rfl ?_
    refine ev_icmp_leN 12 dX7_crossed_6 (by decide) (by omega) (by omega) (fun b6 => ?_) (fun b6 => by exfalso; omega)
    refine ev_iconst (v := nI 0) dX7_crossed_12 rfl ?_
    refine ev_istore_n (i := 2) dX7_crossed_13 rfl (by decide) rfl ?_
    refine ev_bipush (v := (-9)) dX7_crossed_14 rfl ?_
    refine ev_istore_n (i := 3) dX7_crossed_16 rfl (by decide) rfl ?_
    refine ev_iconst (v := nI 0) dX7_crossed_17 rfl ?_
    refine ev_istore (i := 4) dX7_crossed_18 (by decide) rfl ?_
    exact outer l.1 0 (0, none) _ _ (by omega) (fun y hy => by cases hy) rfl
  | false =>
    rw [hx, if_neg (by decide)] at hp
    rcases inR_no hx (by decide) with hx1 | ⟨hx1, hx2⟩
    · skip
      refine ev_iload_n (i := 1) dX7_crossed_0 rfl rfl ?_
      refine ev_if_lt 9 dX7_crossed_1 (by decide) (fun b1 => ?_) (fun b1 => absurd hx1 b1)
      refine ev_bipush (v := (-2)) dX7_crossed_9 rfl ?_
      refine ev_reti dX7_crossed_11 rfl rfl ?_
      exact hp
    · have hx3 : ¬ x ≤ nI 1 := Int32.not_le.mpr (nI_lt_of_le hx2 (by decide))
      refine ev_iload_n (i := 1) dX7_crossed_0 rfl rfl ?_
      refine ev_if_lt 9 dX7_crossed_1 (by decide) (fun b1 => absurd b1 hx1) (fun b1 => ?_)
      refine ev_iload_n (i := 1) dX7_crossed_4 rfl rfl ?_
      refine ev_iconst (v := nI 1) dX7_crossed_5 rfl ?_
      refine ev_icmp_le 12 dX7_crossed_6 (by decide) (fun b6 => absurd b6 hx3) (fun b6 => ?_)
      refine ev_bipush (v := (-2)) dX7_crossed_9 rfl ?_
      refine ev_reti dX7_crossed_11 rfl rfl ?_
      exact hp
theorem lsN_c {t : lt} {ms k : Nat} : (enB t ms k = true → (∀ b, lsN t ms k = some b → cnt k < cnt b) → lsN t ms (k + 1) = some k) ∧ (enB t ms k = false → lsN t ms (k + 1) = lsN t ms k) ∧ (∀ b, lsN t ms k = some b → cnt b ≤ cnt k → lsN t ms (k + 1) = lsN t ms k) := by
  refine ⟨fun h1 h2 => ?_, fun h1 => ?_, fun b h1 h2 => ?_⟩
  · show (if _ then _ else _) = _
    rw [if_pos ⟨h1, h2⟩]
  · show (if _ then _ else _) = _
    rw [if_neg (fun z => by rw [h1] at z; cases z.1)]
  · show (if _ then _ else _) = _
    rw [if_neg (fun z => by have := z.2 b h1; omega)]
theorem lsN_lt {t : lt} {ms : Nat} : ∀ {k b : Nat}, lsN t ms k = some b → b < k
  | 0, b, h => by cases h
  | k + 1, b, h => by
    unfold lsN at h
    split at h
    · cases h; omega
    · have := lsN_lt h; omega
theorem C_least {x : Int32} (h : kC M s) (ho : cOk s) (hp : P (some (.int (a_least s x))) M) : Ev 88 7 mX7_least none 0 [.ref 0, .int x, .null, .null, .null, .null] [] M P := by
  obtain ⟨t, l, p, a, sl, v, sd⟩ := s
  obtain ⟨h0, h1, h2, h3, h11, h4, h5, h6, h7⟩ : kRt M sd ∧ kTx M t ∧ kLt M l ∧ kP M 8 p ∧ (∃ p, kP M 11 p) ∧ kAc M a ∧ kOv M v ∧ kSl M sl ∧ ∃ o, kTm M o := id h
  obtain ⟨o1, o2, o3, o4, o5, o6, o7⟩ : txOk t ∧ ltOk l ∧ pgOk p ∧ (∀ q ∈ a, pgOk q) ∧ a.length ≤ 14 ∧ (∀ i q, sl i = some q → pgOk q) ∧ ovOk v := ho
  have x2 := h2.1
  have hl6 : l.1 ≤ 6 := o2.1
  obtain ⟨f3, g3, x3, hf3, hg3⟩ := id h3
  have x3a := x3.1
  have h64 : 2 ^ l.1 ≤ 2 ^ 6 := pw_le hl6
  have h0p : 0 < 2 ^ l.1 := Nat.two_pow_pos _
  unfold kRt at h0
  unfold a_least at hp
  have hlt : shN p.1 0 < 4096 := shN_lt _ _
  cases hx : inR x 4096 with
  | true =>
    rw [if_pos hx] at hp
    obtain ⟨c, hc, rfl⟩ := inR_of hx (by decide)
    rw [n_cl (by omega)] at hp
    have hms := andn_le c (shN p.1 0)
    have lp : ∀ (j k : Nat) (bo : Option Nat) (lx : Value), k + j = 2 ^ l.1 → bo = lsN l (andn c (shN p.1 0)) k → Ev 88 7 mX7_least none 33 [.ref 0, .int (nI c), .int (nI (andn c (shN p.1 0))), .int (oI bo), .int (nI k), lx] [] M P := by
      intro j
      induction j with
      | zero =>
        intro k bo lx hk eb
        obtain rfl : k = 2 ^ l.1 := by omega
        subst eb
        refine ev_iload (i := 4) dX7_least_33 rfl ?_
        refine ev_aload_n (i := 0) dX7_least_35 rfl rfl ?_
        refine ev_getfield dX7_least_36 fX7_19 (by first | omega | decide) (by first | assumption | (simp (disch := omega) only [mu_s, mu_n]; first | assumption | rfl)) (by rfl) ?_
        refine ev_V0 (μ1 := mX1_all) dX7_least_39 sX7_160 okX1_all (by first | omega | decide) (by first | assumption | (simp (disch := omega) only [mu_s, mu_n]; first | assumption | rfl)) (Nat.le_of_ble_eq_true rfl) (Nat.le_of_ble_eq_true rfl) ?_
        refine c_X1_all h2 o2 ?_
        refine ev_icmp_gtN 100 dX7_least_42 (by decide) (by omega) (by omega) (fun b42 => ?_) (fun b42 => by exfalso; omega)
        refine ev_iload_n (i := 3) dX7_least_100 rfl rfl ?_
        refine ev_reti dX7_least_101 rfl rfl ?_
        exact hp
      | succ j ih =>
        intro k bo lx hk eb
        have hsl := shBy_lt o2 k
        obtain ⟨L1, L2, L3⟩ := lsN_c (t := l) (ms := andn c (shN p.1 0)) (k := k)
        have hle := andn_le (andn c (shN p.1 0)) (shBy l k)
        cases bo with
        | none =>
          refine ev_iload (i := 4) dX7_least_33 rfl ?_
          refine ev_aload_n (i := 0) dX7_least_35 rfl rfl ?_
          refine ev_getfield dX7_least_36 fX7_19 (by first | omega | decide) (by first | assumption | (simp (disch := omega) only [mu_s, mu_n]; first | assumption | rfl)) (by rfl) ?_
          refine ev_V0 (μ1 := mX1_all) dX7_least_39 sX7_160 okX1_all (by first | omega | decide) (by first | assumption | (simp (disch := omega) only [mu_s, mu_n]; first | assumption | rfl)) (Nat.le_of_ble_eq_true rfl) (Nat.le_of_ble_eq_true rfl) ?_
          refine c_X1_all h2 o2 ?_
          refine ev_icmp_gtN 100 dX7_least_42 (by decide) (by omega) (by omega) (fun b42 => by exfalso; omega) (fun b42 => ?_)
          refine ev_iload_n (i := 2) dX7_least_45 rfl rfl ?_
          refine ev_aload_n (i := 0) dX7_least_46 rfl rfl ?_
          refine ev_getfield dX7_least_47 fX7_19 (by first | omega | decide) (by first | assumption | (simp (disch := omega) only [mu_s, mu_n]; first | assumption | rfl)) (by rfl) ?_
          refine ev_iload (i := 4) dX7_least_50 rfl ?_
          refine ev_V1 (μ1 := mX1_shownBy) dX7_least_52 sX7_163 okX1_shownBy (by first | omega | decide) (by first | assumption | (simp (disch := omega) only [mu_s, mu_n]; first | assumption | rfl)) (Nat.le_of_ble_eq_true rfl) (Nat.le_of_ble_eq_true rfl) ?_
          refine c_X1_shownBy h2 o2 (by omega) ?_
          refine ev_iconst (v := (-1)) dX7_least_55 rfl ?_
          refine ev_ixor dX7_least_56 ?_
          refine ev_iand dX7_least_57 ?_
          refine ev_top (i_op (andn_nI _ _)) ?_
          refine ev_if_neN 65 dX7_least_58 (by decide) (by omega) (fun b58 => ?_) (fun b58 => ?_)
          · skip
            refine ev_iconst (v := nI 0) dX7_least_65 rfl ?_
            refine ev_istore (i := 5) dX7_least_66 (by decide) rfl ?_
            refine ev_iload (i := 5) dX7_least_68 rfl ?_
            refine ev_if_eqN 94 dX7_least_70 (by decide) (by omega) (fun b70 => ?_) (fun b70 => ?_)
            · first
              | (exfalso; omega)
              | (skip
                 refine ev_incN dX7_least_94 (by rfl) (by decide) rfl ?_
                 refine ev_goto 33 dX7_least_97 (by decide) ?_
                 first
                 | (have q : andn (andn c (shN p.1 0)) (shBy l k) = 0 := b58
                    exact ih _ (some k) _ (by omega) (L1 (decide_eq_true q) (fun b hb => by rw [← eb] at hb; cases hb)).symm)
                 | (have q : andn (andn c (shN p.1 0)) (shBy l k) ≠ 0 := b58
                    exact ih _ none _ (by omega) (eb.trans (L2 (decide_eq_false q)).symm)))
            · first
              | (exfalso; omega)
              | (skip
                 refine ev_iload_n (i := 3) dX7_least_73 rfl rfl ?_
                 refine ev_bipush (v := (-9)) dX7_least_74 rfl ?_
                 refine ev_icmp_eq 91 dX7_least_76 (by decide) (fun b76 => ?_) (fun b76 => absurd rfl b76)
                 refine ev_iload (i := 4) dX7_least_91 rfl ?_
                 refine ev_istore_n (i := 3) dX7_least_93 rfl (by decide) rfl ?_
                 refine ev_incN dX7_least_94 (by rfl) (by decide) rfl ?_
                 refine ev_goto 33 dX7_least_97 (by decide) ?_
                 first
                 | (have q : andn (andn c (shN p.1 0)) (shBy l k) = 0 := b58
                    exact ih _ (some k) _ (by omega) (L1 (decide_eq_true q) (fun b hb => by rw [← eb] at hb; cases hb)).symm)
                 | (have q : andn (andn c (shN p.1 0)) (shBy l k) ≠ 0 := b58
                    exact ih _ none _ (by omega) (eb.trans (L2 (decide_eq_false q)).symm)))
          · skip
            refine ev_iconst (v := nI 1) dX7_least_61 rfl ?_
            refine ev_goto 66 dX7_least_62 (by decide) ?_
            refine ev_istore (i := 5) dX7_least_66 (by decide) rfl ?_
            refine ev_iload (i := 5) dX7_least_68 rfl ?_
            refine ev_if_eqN 94 dX7_least_70 (by decide) (by omega) (fun b70 => ?_) (fun b70 => ?_)
            · first
              | (exfalso; omega)
              | (skip
                 refine ev_incN dX7_least_94 (by rfl) (by decide) rfl ?_
                 refine ev_goto 33 dX7_least_97 (by decide) ?_
                 first
                 | (have q : andn (andn c (shN p.1 0)) (shBy l k) = 0 := b58
                    exact ih _ (some k) _ (by omega) (L1 (decide_eq_true q) (fun b hb => by rw [← eb] at hb; cases hb)).symm)
                 | (have q : andn (andn c (shN p.1 0)) (shBy l k) ≠ 0 := b58
                    exact ih _ none _ (by omega) (eb.trans (L2 (decide_eq_false q)).symm)))
            · first
              | (exfalso; omega)
              | (skip
                 refine ev_iload_n (i := 3) dX7_least_73 rfl rfl ?_
                 refine ev_bipush (v := (-9)) dX7_least_74 rfl ?_
                 refine ev_icmp_eq 91 dX7_least_76 (by decide) (fun b76 => ?_) (fun b76 => absurd rfl b76)
                 refine ev_iload (i := 4) dX7_least_91 rfl ?_
                 refine ev_istore_n (i := 3) dX7_least_93 rfl (by decide) rfl ?_
                 refine ev_incN dX7_least_94 (by rfl) (by decide) rfl ?_
                 refine ev_goto 33 dX7_least_97 (by decide) ?_
                 first
                 | (have q : andn (andn c (shN p.1 0)) (shBy l k) = 0 := b58
                    exact ih _ (some k) _ (by omega) (L1 (decide_eq_true q) (fun b hb => by rw [← eb] at hb; cases hb)).symm)
                 | (have q : andn (andn c (shN p.1 0)) (shBy l k) ≠ 0 := b58
                    exact ih _ none _ (by omega) (eb.trans (L2 (decide_eq_false q)).symm)))
        | some b0 =>
          have hb9 : ¬ oI (some b0) = (-9) := n_9 (by have := lsN_lt eb.symm; omega)
          have hbl := lsN_lt eb.symm
          have hc1 := cnt_le k
          have hc2 := cnt_le b0
          refine ev_iload (i := 4) dX7_least_33 rfl ?_
          refine ev_aload_n (i := 0) dX7_least_35 rfl rfl ?_
          refine ev_getfield dX7_least_36 fX7_19 (by first | omega | decide) (by first | assumption | (simp (disch := omega) only [mu_s, mu_n]; first | assumption | rfl)) (by rfl) ?_
          refine ev_V0 (μ1 := mX1_all) dX7_least_39 sX7_160 okX1_all (by first | omega | decide) (by first | assumption | (simp (disch := omega) only [mu_s, mu_n]; first | assumption | rfl)) (Nat.le_of_ble_eq_true rfl) (Nat.le_of_ble_eq_true rfl) ?_
          refine c_X1_all h2 o2 ?_
          refine ev_icmp_gtN 100 dX7_least_42 (by decide) (by omega) (by omega) (fun b42 => by exfalso; omega) (fun b42 => ?_)
          refine ev_iload_n (i := 2) dX7_least_45 rfl rfl ?_
          refine ev_aload_n (i := 0) dX7_least_46 rfl rfl ?_
          refine ev_getfield dX7_least_47 fX7_19 (by first | omega | decide) (by first | assumption | (simp (disch := omega) only [mu_s, mu_n]; first | assumption | rfl)) (by rfl) ?_
          refine ev_iload (i := 4) dX7_least_50 rfl ?_
          refine ev_V1 (μ1 := mX1_shownBy) dX7_least_52 sX7_163 okX1_shownBy (by first | omega | decide) (by first | assumption | (simp (disch := omega) only [mu_s, mu_n]; first | assumption | rfl)) (Nat.le_of_ble_eq_true rfl) (Nat.le_of_ble_eq_true rfl) ?_
          refine c_X1_shownBy h2 o2 (by omega) ?_
          refine ev_iconst (v := (-1)) dX7_least_55 rfl ?_
          refine ev_ixor dX7_least_56 ?_
          refine ev_iand dX7_least_57 ?_
          refine ev_top (i_op (andn_nI _ _)) ?_
          refine ev_if_neN 65 dX7_least_58 (by decide) (by omega) (fun b58 => ?_) (fun b58 => ?_)
          · skip
            refine ev_iconst (v := nI 0) dX7_least_65 rfl ?_
            refine ev_istore (i := 5) dX7_least_66 (by decide) rfl ?_
            refine ev_iload (i := 5) dX7_least_68 rfl ?_
            refine ev_if_eqN 94 dX7_least_70 (by decide) (by omega) (fun b70 => ?_) (fun b70 => ?_)
            · first
              | (exfalso; omega)
              | (skip
                 refine ev_incN dX7_least_94 (by rfl) (by decide) rfl ?_
                 refine ev_goto 33 dX7_least_97 (by decide) ?_
                 first
                 | (have q : andn (andn c (shN p.1 0)) (shBy l k) ≠ 0 := b58
                    exact ih _ (some b0) _ (by omega) (eb.trans (L2 (decide_eq_false q)).symm))
                 | (have q2 : cnt b0 ≤ cnt k := b88
                    exact ih _ (some b0) _ (by omega) (eb.trans (L3 b0 eb.symm q2).symm))
                 | (have q : andn (andn c (shN p.1 0)) (shBy l k) = 0 := b58
                    have q2 : cnt k < cnt b0 := b88
                    exact ih _ (some k) _ (by omega) (L1 (decide_eq_true q) (fun b hb => by rw [← eb] at hb; cases hb; exact q2)).symm))
            · first
              | (exfalso; omega)
              | (skip
                 refine ev_iload_n (i := 3) dX7_least_73 rfl rfl ?_
                 refine ev_bipush (v := (-9)) dX7_least_74 rfl ?_
                 refine ev_icmp_eq 91 dX7_least_76 (by decide) (fun b76 => absurd b76 hb9) (fun b76 => ?_)
                 refine ev_iload (i := 4) dX7_least_79 rfl ?_
                 refine ev_S1 (μ1 := mJ6_bitCount_0f7a4) dX7_least_81 sX7_144 okJ6_bitCount_0f7a4 (Nat.le_of_ble_eq_true rfl) (Nat.le_of_ble_eq_true rfl) ?_
                 refine c_bitCount (by omega) ?_
                 refine ev_iload_n (i := 3) dX7_least_84 rfl rfl ?_
                 refine ev_S1 (μ1 := mJ6_bitCount_0f7a4) dX7_least_85 sX7_144 okJ6_bitCount_0f7a4 (Nat.le_of_ble_eq_true rfl) (Nat.le_of_ble_eq_true rfl) ?_
                 refine c_bitCount (by omega) ?_
                 refine ev_icmp_geN 94 dX7_least_88 (by decide) (by omega) (by omega) (fun b88 => ?_) (fun b88 => ?_)
                 · skip
                   refine ev_incN dX7_least_94 (by rfl) (by decide) rfl ?_
                   refine ev_goto 33 dX7_least_97 (by decide) ?_
                   first
                   | (have q : andn (andn c (shN p.1 0)) (shBy l k) ≠ 0 := b58
                      exact ih _ (some b0) _ (by omega) (eb.trans (L2 (decide_eq_false q)).symm))
                   | (have q2 : cnt b0 ≤ cnt k := b88
                      exact ih _ (some b0) _ (by omega) (eb.trans (L3 b0 eb.symm q2).symm))
                   | (have q : andn (andn c (shN p.1 0)) (shBy l k) = 0 := b58
                      have q2 : cnt k < cnt b0 := b88
                      exact ih _ (some k) _ (by omega) (L1 (decide_eq_true q) (fun b hb => by rw [← eb] at hb; cases hb; exact q2)).symm)
                 · skip
                   refine ev_iload (i := 4) dX7_least_91 rfl ?_
                   refine ev_istore_n (i := 3) dX7_least_93 rfl (by decide) rfl ?_
                   refine ev_incN dX7_least_94 (by rfl) (by decide) rfl ?_
                   refine ev_goto 33 dX7_least_97 (by decide) ?_
                   first
                   | (have q : andn (andn c (shN p.1 0)) (shBy l k) ≠ 0 := b58
                      exact ih _ (some b0) _ (by omega) (eb.trans (L2 (decide_eq_false q)).symm))
                   | (have q2 : cnt b0 ≤ cnt k := b88
                      exact ih _ (some b0) _ (by omega) (eb.trans (L3 b0 eb.symm q2).symm))
                   | (have q : andn (andn c (shN p.1 0)) (shBy l k) = 0 := b58
                      have q2 : cnt k < cnt b0 := b88
                      exact ih _ (some k) _ (by omega) (L1 (decide_eq_true q) (fun b hb => by rw [← eb] at hb; cases hb; exact q2)).symm))
          · skip
            refine ev_iconst (v := nI 1) dX7_least_61 rfl ?_
            refine ev_goto 66 dX7_least_62 (by decide) ?_
            refine ev_istore (i := 5) dX7_least_66 (by decide) rfl ?_
            refine ev_iload (i := 5) dX7_least_68 rfl ?_
            refine ev_if_eqN 94 dX7_least_70 (by decide) (by omega) (fun b70 => ?_) (fun b70 => ?_)
            · first
              | (exfalso; omega)
              | (skip
                 refine ev_incN dX7_least_94 (by rfl) (by decide) rfl ?_
                 refine ev_goto 33 dX7_least_97 (by decide) ?_
                 first
                 | (have q : andn (andn c (shN p.1 0)) (shBy l k) ≠ 0 := b58
                    exact ih _ (some b0) _ (by omega) (eb.trans (L2 (decide_eq_false q)).symm))
                 | (have q2 : cnt b0 ≤ cnt k := b88
                    exact ih _ (some b0) _ (by omega) (eb.trans (L3 b0 eb.symm q2).symm))
                 | (have q : andn (andn c (shN p.1 0)) (shBy l k) = 0 := b58
                    have q2 : cnt k < cnt b0 := b88
                    exact ih _ (some k) _ (by omega) (L1 (decide_eq_true q) (fun b hb => by rw [← eb] at hb; cases hb; exact q2)).symm))
            · first
              | (exfalso; omega)
              | (skip
                 refine ev_iload_n (i := 3) dX7_least_73 rfl rfl ?_
                 refine ev_bipush (v := (-9)) dX7_least_74 rfl ?_
                 refine ev_icmp_eq 91 dX7_least_76 (by decide) (fun b76 => absurd b76 hb9) (fun b76 => ?_)
                 refine ev_iload (i := 4) dX7_least_79 rfl ?_
                 refine ev_S1 (μ1 := mJ6_bitCount_0f7a4) dX7_least_81 sX7_144 okJ6_bitCount_0f7a4 (Nat.le_of_ble_eq_true rfl) (Nat.le_of_ble_eq_true rfl) ?_
                 refine c_bitCount (by omega) ?_
                 refine ev_iload_n (i := 3) dX7_least_84 rfl rfl ?_
                 refine ev_S1 (μ1 := mJ6_bitCount_0f7a4) dX7_least_85 sX7_144 okJ6_bitCount_0f7a4 (Nat.le_of_ble_eq_true rfl) (Nat.le_of_ble_eq_true rfl) ?_
                 refine c_bitCount (by omega) ?_
                 refine ev_icmp_geN 94 dX7_least_88 (by decide) (by omega) (by omega) (fun b88 => ?_) (fun b88 => ?_)
                 · skip
                   refine ev_incN dX7_least_94 (by rfl) (by decide) rfl ?_
                   refine ev_goto 33 dX7_least_97 (by decide) ?_
                   first
                   | (have q : andn (andn c (shN p.1 0)) (shBy l k) ≠ 0 := b58
                      exact ih _ (some b0) _ (by omega) (eb.trans (L2 (decide_eq_false q)).symm))
                   | (have q2 : cnt b0 ≤ cnt k := b88
                      exact ih _ (some b0) _ (by omega) (eb.trans (L3 b0 eb.symm q2).symm))
                   | (have q : andn (andn c (shN p.1 0)) (shBy l k) = 0 := b58
                      have q2 : cnt k < cnt b0 := b88
                      exact ih _ (some k) _ (by omega) (L1 (decide_eq_true q) (fun b hb => by rw [← eb] at hb; cases hb; exact q2)).symm)
                 · skip
                   refine ev_iload (i := 4) dX7_least_91 rfl ?_
                   refine ev_istore_n (i := 3) dX7_least_93 rfl (by decide) rfl ?_
                   refine ev_incN dX7_least_94 (by rfl) (by decide) rfl ?_
                   refine ev_goto 33 dX7_least_97 (by decide) ?_
                   first
                   | (have q : andn (andn c (shN p.1 0)) (shBy l k) ≠ 0 := b58
                      exact ih _ (some b0) _ (by omega) (eb.trans (L2 (decide_eq_false q)).symm))
                   | (have q2 : cnt b0 ≤ cnt k := b88
                      exact ih _ (some b0) _ (by omega) (eb.trans (L3 b0 eb.symm q2).symm))
                   | (have q : andn (andn c (shN p.1 0)) (shBy l k) = 0 := b58
                      have q2 : cnt k < cnt b0 := b88
                      exact ih _ (some k) _ (by omega) (L1 (decide_eq_true q) (fun b hb => by rw [← eb] at hb; cases hb; exact q2)).symm))
    refine ev_iload_n (i := 1) dX7_least_0 rfl rfl ?_
    refine ev_if_ltN 11 dX7_least_1 (by decide) (by omega) (fun b1 => by exfalso; omega) (fun b1 => ?_)
    refine ev_iload_n (i := 1) dX7_least_4 rfl rfl ?_
    refine ev_sipush (v := nI 4095) dX7_least_5 rfl ?_
    refine ev_icmp_leN 14 dX7_least_8 (by decide) (by omega) (by omega) (fun b8 => ?_) (fun b8 => by exfalso; omega)
    refine ev_iload_n (i := 1) dX7_least_14 rfl rfl ?_
    refine ev_aload_n (i := 0) dX7_least_15 rfl rfl ?_
    refine ev_getfield dX7_least_16 fX7_26 (by first | omega | decide) (by first | assumption | (simp (disch := omega) only [mu_s, mu_n]; first | assumption | rfl)) (by rfl) ?_
    refine ev_iconst (v := nI 0) dX7_least_19 rfl ?_
    refine ev_V1 (μ1 := mX3_shownIn) dX7_least_20 sX7_93 okX3_shownIn (by first | omega | decide) (by first | assumption | (simp (disch := omega) only [mu_s, mu_n]; first | assumption | rfl)) (Nat.le_of_ble_eq_true rfl) (Nat.le_of_ble_eq_true rfl) ?_
    refine q_shownIn (by omega) h3 o3 (by decide) ?_
    refine ev_iconst (v := (-1)) dX7_least_23 rfl ?_
    refine ev_ixor dX7_least_24 ?_
    refine ev_iand dX7_least_25 ?_
    refine ev_top (i_op (andn_nI _ _)) ?_
    refine ev_istore_n (i := 2) dX7_least_26 rfl (by decide) rfl ?_
    refine ev_bipush (v := (-9)) dX7_least_27 rfl ?_
    refine ev_istore_n (i := 3) dX7_least_29 rfl (by decide) rfl ?_
    refine ev_iconst (v := nI 0) dX7_least_30 rfl ?_
    refine ev_istore (i := 4) dX7_least_31 (by decide) rfl ?_
    exact lp (2 ^ l.1) 0 none _ (by omega) rfl
  | false =>
    rw [hx, if_neg (by decide)] at hp
    rcases inR_no hx (by decide) with hx1 | ⟨hx1, hx2⟩
    · skip
      refine ev_iload_n (i := 1) dX7_least_0 rfl rfl ?_
      refine ev_if_lt 11 dX7_least_1 (by decide) (fun b1 => ?_) (fun b1 => absurd hx1 b1)
      refine ev_bipush (v := (-2)) dX7_least_11 rfl ?_
      refine ev_reti dX7_least_13 rfl rfl ?_
      exact hp
    · have hx3 : ¬ x ≤ nI 4095 := Int32.not_le.mpr (nI_lt_of_le hx2 (by decide))
      refine ev_iload_n (i := 1) dX7_least_0 rfl rfl ?_
      refine ev_if_lt 11 dX7_least_1 (by decide) (fun b1 => absurd b1 hx1) (fun b1 => ?_)
      refine ev_iload_n (i := 1) dX7_least_4 rfl rfl ?_
      refine ev_sipush (v := nI 4095) dX7_least_5 rfl ?_
      refine ev_icmp_le 14 dX7_least_8 (by decide) (fun b8 => absurd b8 hx3) (fun b8 => ?_)
      refine ev_bipush (v := (-2)) dX7_least_11 rfl ?_
      refine ev_reti dX7_least_13 rfl rfl ?_
      exact hp
theorem C_share {x : Int32} {u : Bool} (h : kC M s) (ho : cOk s) (hp : P (some (.int (a_share s x u))) M) : Ev 88 7 mX7_share none 0 [.ref 0, .int x, .int (bI u), .null, .null, .null, .null] [] M P := by
  obtain ⟨t, l, p, a, sl, v, sd⟩ := s
  obtain ⟨h0, h1, h2, h3, h11, h4, h5, h6, h7⟩ : kRt M sd ∧ kTx M t ∧ kLt M l ∧ kP M 8 p ∧ (∃ p, kP M 11 p) ∧ kAc M a ∧ kOv M v ∧ kSl M sl ∧ ∃ o, kTm M o := id h
  obtain ⟨o1, o2, o3, o4, o5, o6, o7⟩ : txOk t ∧ ltOk l ∧ pgOk p ∧ (∀ q ∈ a, pgOk q) ∧ a.length ≤ 14 ∧ (∀ i q, sl i = some q → pgOk q) ∧ ovOk v := ho
  have x2 := h2.1
  have hl6 : l.1 ≤ 6 := o2.1
  obtain ⟨f3, g3, x3, hf3, hg3⟩ := id h3
  have x3a := x3.1
  have h64 : 2 ^ l.1 ≤ 2 ^ 6 := pw_le hl6
  have h0p : 0 < 2 ^ l.1 := Nat.two_pow_pos _
  unfold kRt at h0
  unfold a_share at hp
  cases hx : inR x l.1 with
  | true =>
    rw [if_pos hx] at hp
    obtain ⟨i, hi, rfl⟩ := inR_of hx (by omega)
    rw [n_cl (by omega)] at hp
    have hc := shBy_lt o2 (2 ^ i)
    have hpi : 2 ^ i < 2 ^ 31 := Nat.pow_lt_pow_right (by decide) (by omega)
    have hw : ∀ c, shwN l c ≤ 6 := fun c => by
      have := sN_le (g := fun y => shBy l (2 ^ y) / 2 ^ c % 2) (b := 1) (n := l.1) (fun y _ => by show _ % 2 ≤ 1; omega)
      unfold shwN
      omega
    have hs : ∀ n, n ≤ 12 → sN (fun c => if (shBy l (2 ^ i)).testBit c = true ∧ 0 < shwN l c then 60 / shwN l c else 0) n ≤ n * 60 := fun n hn => sN_le (fun c _ => by
      show (if _ then _ else _) ≤ 60
      split
      · exact Nat.div_le_self _ _
      · omega)
    have lp : ∀ (j c acc : Nat) (lx : Value), c + j = 12 → acc = sN (fun c => if (shBy l (2 ^ i)).testBit c = true ∧ 0 < shwN l c then 60 / shwN l c else 0) c → Ev 88 7 mX7_share none 30 [.ref 0, .int (nI i), .int (bI u), .int (nI (shBy l (2 ^ i))), .int (nI acc), .int (nI c), lx] [] M P := by
      intro j
      induction j with
      | zero =>
        intro c acc lx hc ha
        obtain rfl : c = 12 := by omega
        have h12 := hs 12 (by omega)
        subst ha
        refine ev_iload (i := 5) dX7_share_30 rfl ?_
        refine ev_bipush (v := nI 12) dX7_share_32 rfl ?_
        refine ev_icmp_geN 79 dX7_share_34 (by decide) (by omega) (by omega) (fun b34 => ?_) (fun b34 => by exfalso; omega)
        refine ev_iload (i := 4) dX7_share_79 rfl ?_
        refine ev_bipush (v := nI 60) dX7_share_81 rfl ?_
        refine ev_iload_n (i := 2) dX7_share_83 rfl rfl ?_
        refine ev_S3 (μ1 := mX7_leastTerms) dX7_share_84 sX7_199 okX7_leastTerms (Nat.le_of_ble_eq_true rfl) (Nat.le_of_ble_eq_true rfl) ?_
        refine c_leastTerms (by omega) (by decide) (by decide) ?_
        refine ev_reti dX7_share_87 rfl rfl ?_
        exact hp
      | succ j ih =>
        intro c acc lx hc ha
        have hwc := hw c
        refine ev_iload (i := 5) dX7_share_30 rfl ?_
        refine ev_bipush (v := nI 12) dX7_share_32 rfl ?_
        refine ev_icmp_geN 79 dX7_share_34 (by decide) (by omega) (by omega) (fun b34 => by exfalso; omega) (fun b34 => ?_)
        refine ev_aload_n (i := 0) dX7_share_37 rfl rfl ?_
        refine ev_getfield dX7_share_38 fX7_19 (by first | omega | decide) (by first | assumption | (simp (disch := omega) only [mu_s, mu_n]; first | assumption | rfl)) (by rfl) ?_
        refine ev_iload (i := 5) dX7_share_41 rfl ?_
        refine ev_V1 (μ1 := mX1_showing) dX7_share_43 sX7_196 okX1_showing (by first | omega | decide) (by first | assumption | (simp (disch := omega) only [mu_s, mu_n]; first | assumption | rfl)) (Nat.le_of_ble_eq_true rfl) (Nat.le_of_ble_eq_true rfl) ?_
        refine c_X1_showing h2 o2 (by omega) ?_
        refine ev_istore (i := 6) dX7_share_46 (by decide) rfl ?_
        refine ev_iload_n (i := 3) dX7_share_48 rfl rfl ?_
        refine ev_iload (i := 5) dX7_share_49 rfl ?_
        refine ev_ishrN dX7_share_51 (by omega) (by omega) ?_
        refine ev_iconst (v := nI 1) dX7_share_52 rfl ?_
        refine ev_iand1 dX7_share_53 ?_
        refine ev_iconst (v := nI 1) dX7_share_54 rfl ?_
        refine ev_icmp_neN 73 dX7_share_55 (by decide) (by omega) (by omega) (fun b55 => ?_) (fun b55 => ?_)
        · skip
          refine ev_incN dX7_share_73 (by rfl) (by decide) rfl ?_
          refine ev_goto 30 dX7_share_76 (by decide) ?_
          first
          | (have q : shBy l (2 ^ i) / 2 ^ c % 2 ≠ 1 := b55
             exact ih _ _ _ (by omega) (ha.trans (sN_z (if_neg (fun z => q ((tb_d _ _).mpr z.1))))))
          | (have q : shwN l c ≤ 0 := b60
             exact ih _ _ _ (by omega) (ha.trans (sN_z (if_neg (fun z => by omega)))))
          | exact ih _ _ _ (by omega) (by rw [ha]; exact sN_s (if_pos ⟨(tb_d _ _).mp b55, b60⟩))
        · skip
          refine ev_iload (i := 6) dX7_share_58 rfl ?_
          refine ev_if_leN 73 dX7_share_60 (by decide) (by omega) (fun b60 => ?_) (fun b60 => ?_)
          · skip
            refine ev_incN dX7_share_73 (by rfl) (by decide) rfl ?_
            refine ev_goto 30 dX7_share_76 (by decide) ?_
            first
            | (have q : shBy l (2 ^ i) / 2 ^ c % 2 ≠ 1 := b55
               exact ih _ _ _ (by omega) (ha.trans (sN_z (if_neg (fun z => q ((tb_d _ _).mpr z.1))))))
            | (have q : shwN l c ≤ 0 := b60
               exact ih _ _ _ (by omega) (ha.trans (sN_z (if_neg (fun z => by omega)))))
            | exact ih _ _ _ (by omega) (by rw [ha]; exact sN_s (if_pos ⟨(tb_d _ _).mp b55, b60⟩))
          · skip
            refine ev_iload (i := 4) dX7_share_63 rfl ?_
            refine ev_bipush (v := nI 60) dX7_share_65 rfl ?_
            refine ev_iload (i := 6) dX7_share_67 rfl ?_
            refine ev_idivN dX7_share_69 (by omega) (by omega) (by omega) ?_
            refine ev_iaddN dX7_share_70 ?_
            refine ev_istore (i := 4) dX7_share_71 (by decide) rfl ?_
            refine ev_incN dX7_share_73 (by rfl) (by decide) rfl ?_
            refine ev_goto 30 dX7_share_76 (by decide) ?_
            first
            | (have q : shBy l (2 ^ i) / 2 ^ c % 2 ≠ 1 := b55
               exact ih _ _ _ (by omega) (ha.trans (sN_z (if_neg (fun z => q ((tb_d _ _).mpr z.1))))))
            | (have q : shwN l c ≤ 0 := b60
               exact ih _ _ _ (by omega) (ha.trans (sN_z (if_neg (fun z => by omega)))))
            | exact ih _ _ _ (by omega) (by rw [ha]; exact sN_s (if_pos ⟨(tb_d _ _).mp b55, b60⟩))
    refine ev_aload_n (i := 0) dX7_share_0 rfl rfl ?_
    refine ev_getfield dX7_share_1 fX7_19 (by first | omega | decide) (by first | assumption | (simp (disch := omega) only [mu_s, mu_n]; first | assumption | rfl)) (by rfl) ?_
    refine ev_iload_n (i := 1) dX7_share_4 rfl rfl ?_
    refine ev_V1 (μ1 := mX1_has) dX7_share_5 sX7_108 okX1_has (by first | omega | decide) (by first | assumption | (simp (disch := omega) only [mu_s, mu_n]; first | assumption | rfl)) (Nat.le_of_ble_eq_true rfl) (Nat.le_of_ble_eq_true rfl) ?_
    refine c_X1_has h2 o2 ?_
    refine ev_if_neB 13 dX7_share_8 (by decide) (fun b8 => ?_) (fun b8 => by rw [hx] at b8; cases b8)
    refine ev_aload_n (i := 0) dX7_share_13 rfl rfl ?_
    refine ev_getfield dX7_share_14 fX7_19 (by first | omega | decide) (by first | assumption | (simp (disch := omega) only [mu_s, mu_n]; first | assumption | rfl)) (by rfl) ?_
    refine ev_iconst (v := nI 1) dX7_share_17 rfl ?_
    refine ev_iload_n (i := 1) dX7_share_18 rfl rfl ?_
    refine ev_ishl1 dX7_share_19 (by omega) ?_
    refine ev_V1 (μ1 := mX1_shownBy) dX7_share_20 sX7_163 okX1_shownBy (by first | omega | decide) (by first | assumption | (simp (disch := omega) only [mu_s, mu_n]; first | assumption | rfl)) (Nat.le_of_ble_eq_true rfl) (Nat.le_of_ble_eq_true rfl) ?_
    refine c_X1_shownBy h2 o2 hpi ?_
    refine ev_istore_n (i := 3) dX7_share_23 rfl (by decide) rfl ?_
    refine ev_iconst (v := nI 0) dX7_share_24 rfl ?_
    refine ev_istore (i := 4) dX7_share_25 (by decide) rfl ?_
    refine ev_iconst (v := nI 0) dX7_share_27 rfl ?_
    refine ev_istore (i := 5) dX7_share_28 (by decide) rfl ?_
    exact lp 12 0 0 _ (by omega) rfl
  | false =>
    rw [hx, if_neg (by decide)] at hp
    refine ev_aload_n (i := 0) dX7_share_0 rfl rfl ?_
    refine ev_getfield dX7_share_1 fX7_19 (by first | omega | decide) (by first | assumption | (simp (disch := omega) only [mu_s, mu_n]; first | assumption | rfl)) (by rfl) ?_
    refine ev_iload_n (i := 1) dX7_share_4 rfl rfl ?_
    refine ev_V1 (μ1 := mX1_has) dX7_share_5 sX7_108 okX1_has (by first | omega | decide) (by first | assumption | (simp (disch := omega) only [mu_s, mu_n]; first | assumption | rfl)) (Nat.le_of_ble_eq_true rfl) (Nat.le_of_ble_eq_true rfl) ?_
    refine c_X1_has h2 o2 ?_
    refine ev_if_neB 13 dX7_share_8 (by decide) (fun b8 => by rw [hx] at b8; cases b8) (fun b8 => ?_)
    refine ev_iconst (v := (-1)) dX7_share_11 rfl ?_
    refine ev_reti dX7_share_12 rfl rfl ?_
    exact hp
theorem C_tell {x y : Int32} (h : kC M s) (ho : cOk s) (hp : ∀ M1, ag M M1 0 72 → kC M1 (n_tell s x y) → P (some (.int (a_tell s x y))) M1) : Ev 88 7 mX7_tell none 0 [.ref 0, .int x, .int y] [] M P := by
  obtain ⟨t, l, p, a, sl, v, sd⟩ := s
  obtain ⟨h0, h1, h2, h3, h11, h4, h5, h6, h7⟩ : kRt M sd ∧ kTx M t ∧ kLt M l ∧ kP M 8 p ∧ (∃ p, kP M 11 p) ∧ kAc M a ∧ kOv M v ∧ kSl M sl ∧ ∃ o, kTm M o := id h
  obtain ⟨o1, o2, o3, o4, o5, o6, o7⟩ : txOk t ∧ ltOk l ∧ pgOk p ∧ (∀ q ∈ a, pgOk q) ∧ a.length ≤ 14 ∧ (∀ i q, sl i = some q → pgOk q) ∧ ovOk v := ho
  have x2 := h2.1
  have hl6 : l.1 ≤ 6 := o2.1
  obtain ⟨f3, g3, x3, hf3, hg3⟩ := id h3
  have x3a := x3.1
  have h64 : 2 ^ l.1 ≤ 2 ^ 6 := pw_le hl6
  have h0p : 0 < 2 ^ l.1 := Nat.two_pow_pos _
  unfold kRt at h0
  have x5 := h5.1
  cases hx : inR x l.1 with
  | true =>
    obtain ⟨i, hi, rfl⟩ := inR_of hx (by omega)
    cases hy : inR y l.1 with
    | true =>
      obtain ⟨j, hj, rfl⟩ := inR_of hy (by omega)
      by_cases hij : i = j
      · subst hij
        have e1 : a_tell (t, l, p, a, sl, v, sd) (nI i) (nI i) = (-2) := by unfold a_tell; rw [if_pos ⟨hx, hx⟩, if_pos rfl]
        have e2 : n_tell (t, l, p, a, sl, v, sd) (nI i) (nI i) = (t, l, p, a, sl, v, sd) := by unfold n_tell; rw [if_neg (fun z => z.2.1 rfl)]
        rw [e1, e2] at hp
        refine ev_aload_n (i := 0) dX7_tell_0 rfl rfl ?_
        refine ev_getfield dX7_tell_1 fX7_19 (by first | omega | decide) (by first | assumption | (simp (disch := omega) only [mu_s, mu_n]; first | assumption | rfl)) (by rfl) ?_
        refine ev_iload_n (i := 1) dX7_tell_4 rfl rfl ?_
        refine ev_V1 (μ1 := mX1_has) dX7_tell_5 sX7_108 okX1_has (by first | omega | decide) (by first | assumption | (simp (disch := omega) only [mu_s, mu_n]; first | assumption | rfl)) (Nat.le_of_ble_eq_true rfl) (Nat.le_of_ble_eq_true rfl) ?_
        refine c_X1_has h2 o2 ?_
        refine ev_if_eqB 22 dX7_tell_8 (by decide) (fun b8 => by rw [hx] at b8; cases b8) (fun b8 => ?_)
        refine ev_aload_n (i := 0) dX7_tell_11 rfl rfl ?_
        refine ev_getfield dX7_tell_12 fX7_19 (by first | omega | decide) (by first | assumption | (simp (disch := omega) only [mu_s, mu_n]; first | assumption | rfl)) (by rfl) ?_
        refine ev_iload_n (i := 2) dX7_tell_15 rfl rfl ?_
        refine ev_V1 (μ1 := mX1_has) dX7_tell_16 sX7_108 okX1_has (by first | omega | decide) (by first | assumption | (simp (disch := omega) only [mu_s, mu_n]; first | assumption | rfl)) (Nat.le_of_ble_eq_true rfl) (Nat.le_of_ble_eq_true rfl) ?_
        refine c_X1_has h2 o2 ?_
        refine ev_if_neB 24 dX7_tell_19 (by decide) (fun b19 => ?_) (fun b19 => by rw [hx] at b19; cases b19)
        refine ev_iload_n (i := 1) dX7_tell_24 rfl rfl ?_
        refine ev_iload_n (i := 2) dX7_tell_25 rfl rfl ?_
        refine ev_icmp_neN 32 dX7_tell_26 (by decide) (by omega) (by omega) (fun b26 => by exfalso; omega) (fun b26 => ?_)
        refine ev_bipush (v := (-2)) dX7_tell_29 rfl ?_
        refine ev_reti dX7_tell_31 rfl rfl ?_
        exact hp M (ag_rf M _ _) h
      · have hne : ¬ nI i = nI j := fun z => hij ((nI_eq (by omega) (by omega)).mp z)
        have c1 : (nI i).toNatClampNeg = i := n_cl (by omega)
        have c2 : (nI j).toNatClampNeg = j := n_cl (by omega)
        by_cases hv : v.1 < 6
        · have e1 : a_tell (t, l, p, a, sl, v, sd) (nI i) (nI j) = nI (v.1 + 1) := by unfold a_tell; rw [if_pos ⟨hx, hy⟩, if_neg hne, if_pos hv]
          have e2 : n_tell (t, l, p, a, sl, v, sd) (nI i) (nI j) = (t, l, p, a, sl, ovAdd v i j, sd) := by unfold n_tell; rw [if_pos ⟨⟨hx, hy⟩, hne, hv⟩, c1, c2]
          rw [e1, e2] at hp
          refine ev_aload_n (i := 0) dX7_tell_0 rfl rfl ?_
          refine ev_getfield dX7_tell_1 fX7_19 (by first | omega | decide) (by first | assumption | (simp (disch := omega) only [mu_s, mu_n]; first | assumption | rfl)) (by rfl) ?_
          refine ev_iload_n (i := 1) dX7_tell_4 rfl rfl ?_
          refine ev_V1 (μ1 := mX1_has) dX7_tell_5 sX7_108 okX1_has (by first | omega | decide) (by first | assumption | (simp (disch := omega) only [mu_s, mu_n]; first | assumption | rfl)) (Nat.le_of_ble_eq_true rfl) (Nat.le_of_ble_eq_true rfl) ?_
          refine c_X1_has h2 o2 ?_
          refine ev_if_eqB 22 dX7_tell_8 (by decide) (fun b8 => by rw [hx] at b8; cases b8) (fun b8 => ?_)
          refine ev_aload_n (i := 0) dX7_tell_11 rfl rfl ?_
          refine ev_getfield dX7_tell_12 fX7_19 (by first | omega | decide) (by first | assumption | (simp (disch := omega) only [mu_s, mu_n]; first | assumption | rfl)) (by rfl) ?_
          refine ev_iload_n (i := 2) dX7_tell_15 rfl rfl ?_
          refine ev_V1 (μ1 := mX1_has) dX7_tell_16 sX7_108 okX1_has (by first | omega | decide) (by first | assumption | (simp (disch := omega) only [mu_s, mu_n]; first | assumption | rfl)) (Nat.le_of_ble_eq_true rfl) (Nat.le_of_ble_eq_true rfl) ?_
          refine c_X1_has h2 o2 ?_
          refine ev_if_neB 24 dX7_tell_19 (by decide) (fun b19 => ?_) (fun b19 => by rw [hy] at b19; cases b19)
          refine ev_iload_n (i := 1) dX7_tell_24 rfl rfl ?_
          refine ev_iload_n (i := 2) dX7_tell_25 rfl rfl ?_
          refine ev_icmp_neN 32 dX7_tell_26 (by decide) (by omega) (by omega) (fun b26 => ?_) (fun b26 => by exfalso; omega)
          refine ev_aload_n (i := 0) dX7_tell_32 rfl rfl ?_
          refine ev_getfield dX7_tell_33 fX7_43 (by first | omega | decide) (by first | assumption | (simp (disch := omega) only [mu_s, mu_n]; first | assumption | rfl)) (by rfl) ?_
          refine ev_iload_n (i := 1) dX7_tell_36 rfl rfl ?_
          refine ev_iload_n (i := 2) dX7_tell_37 rfl rfl ?_
          refine ev_V2 (μ1 := mX2_add) dX7_tell_38 sX7_203 okX2_add (by first | omega | decide) (by first | assumption | (simp (disch := omega) only [mu_s, mu_n]; first | assumption | rfl)) (Nat.le_of_ble_eq_true rfl) (Nat.le_of_ble_eq_true rfl) ?_
          refine c_oAdd1 h5 o7 hv (fun M1 ha hk => ?_)
          have y0 := (ha 0 (by omega)).trans h0
          have y5 := hk.1
          refine ev_if_eqB 54 dX7_tell_41 (by decide) (fun b41 => by cases b41) (fun b41 => ?_)
          refine ev_aload_n (i := 0) dX7_tell_44 rfl rfl ?_
          refine ev_getfield dX7_tell_45 fX7_43 (by first | omega | decide) (by first | assumption | (simp (disch := omega) only [mu_s, mu_n]; first | assumption | rfl)) (by rfl) ?_
          refine ev_getfield dX7_tell_48 fX7_107 (by first | omega | decide) (by first | assumption | (simp (disch := omega) only [mu_s, mu_n]; first | assumption | rfl)) (by rfl) ?_
          refine ev_goto 56 dX7_tell_51 (by decide) ?_
          refine ev_reti dX7_tell_56 rfl rfl ?_
          exact hp M1 (ag_wd ha) (kC_ov h (ag_wd ha) hk)
        · have e1 : a_tell (t, l, p, a, sl, v, sd) (nI i) (nI j) = (-4) := by unfold a_tell; rw [if_pos ⟨hx, hy⟩, if_neg hne, if_neg hv]
          have e2 : n_tell (t, l, p, a, sl, v, sd) (nI i) (nI j) = (t, l, p, a, sl, v, sd) := by unfold n_tell; rw [if_neg (fun z => hv z.2.2)]
          rw [e1, e2] at hp
          refine ev_aload_n (i := 0) dX7_tell_0 rfl rfl ?_
          refine ev_getfield dX7_tell_1 fX7_19 (by first | omega | decide) (by first | assumption | (simp (disch := omega) only [mu_s, mu_n]; first | assumption | rfl)) (by rfl) ?_
          refine ev_iload_n (i := 1) dX7_tell_4 rfl rfl ?_
          refine ev_V1 (μ1 := mX1_has) dX7_tell_5 sX7_108 okX1_has (by first | omega | decide) (by first | assumption | (simp (disch := omega) only [mu_s, mu_n]; first | assumption | rfl)) (Nat.le_of_ble_eq_true rfl) (Nat.le_of_ble_eq_true rfl) ?_
          refine c_X1_has h2 o2 ?_
          refine ev_if_eqB 22 dX7_tell_8 (by decide) (fun b8 => by rw [hx] at b8; cases b8) (fun b8 => ?_)
          refine ev_aload_n (i := 0) dX7_tell_11 rfl rfl ?_
          refine ev_getfield dX7_tell_12 fX7_19 (by first | omega | decide) (by first | assumption | (simp (disch := omega) only [mu_s, mu_n]; first | assumption | rfl)) (by rfl) ?_
          refine ev_iload_n (i := 2) dX7_tell_15 rfl rfl ?_
          refine ev_V1 (μ1 := mX1_has) dX7_tell_16 sX7_108 okX1_has (by first | omega | decide) (by first | assumption | (simp (disch := omega) only [mu_s, mu_n]; first | assumption | rfl)) (Nat.le_of_ble_eq_true rfl) (Nat.le_of_ble_eq_true rfl) ?_
          refine c_X1_has h2 o2 ?_
          refine ev_if_neB 24 dX7_tell_19 (by decide) (fun b19 => ?_) (fun b19 => by rw [hy] at b19; cases b19)
          refine ev_iload_n (i := 1) dX7_tell_24 rfl rfl ?_
          refine ev_iload_n (i := 2) dX7_tell_25 rfl rfl ?_
          refine ev_icmp_neN 32 dX7_tell_26 (by decide) (by omega) (by omega) (fun b26 => ?_) (fun b26 => by exfalso; omega)
          refine ev_aload_n (i := 0) dX7_tell_32 rfl rfl ?_
          refine ev_getfield dX7_tell_33 fX7_43 (by first | omega | decide) (by first | assumption | (simp (disch := omega) only [mu_s, mu_n]; first | assumption | rfl)) (by rfl) ?_
          refine ev_iload_n (i := 1) dX7_tell_36 rfl rfl ?_
          refine ev_iload_n (i := 2) dX7_tell_37 rfl rfl ?_
          refine ev_V2 (μ1 := mX2_add) dX7_tell_38 sX7_203 okX2_add (by first | omega | decide) (by first | assumption | (simp (disch := omega) only [mu_s, mu_n]; first | assumption | rfl)) (Nat.le_of_ble_eq_true rfl) (Nat.le_of_ble_eq_true rfl) ?_
          refine c_oAdd0 h5 o7 hv ?_
          refine ev_if_eqB 54 dX7_tell_41 (by decide) (fun b41 => ?_) (fun b41 => by cases b41)
          refine ev_bipush (v := (-4)) dX7_tell_54 rfl ?_
          refine ev_reti dX7_tell_56 rfl rfl ?_
          exact hp M (ag_rf M _ _) h
    | false =>
      have e1 : a_tell (t, l, p, a, sl, v, sd) (nI i) y = (-1) := by unfold a_tell; rw [if_neg (fun z => by rw [hy] at z; cases z.2)]
      have e2 : n_tell (t, l, p, a, sl, v, sd) (nI i) y = (t, l, p, a, sl, v, sd) := by unfold n_tell; rw [if_neg (fun z => by rw [hy] at z; cases z.1.2)]
      rw [e1, e2] at hp
      refine ev_aload_n (i := 0) dX7_tell_0 rfl rfl ?_
      refine ev_getfield dX7_tell_1 fX7_19 (by first | omega | decide) (by first | assumption | (simp (disch := omega) only [mu_s, mu_n]; first | assumption | rfl)) (by rfl) ?_
      refine ev_iload_n (i := 1) dX7_tell_4 rfl rfl ?_
      refine ev_V1 (μ1 := mX1_has) dX7_tell_5 sX7_108 okX1_has (by first | omega | decide) (by first | assumption | (simp (disch := omega) only [mu_s, mu_n]; first | assumption | rfl)) (Nat.le_of_ble_eq_true rfl) (Nat.le_of_ble_eq_true rfl) ?_
      refine c_X1_has h2 o2 ?_
      refine ev_if_eqB 22 dX7_tell_8 (by decide) (fun b8 => by rw [hx] at b8; cases b8) (fun b8 => ?_)
      refine ev_aload_n (i := 0) dX7_tell_11 rfl rfl ?_
      refine ev_getfield dX7_tell_12 fX7_19 (by first | omega | decide) (by first | assumption | (simp (disch := omega) only [mu_s, mu_n]; first | assumption | rfl)) (by rfl) ?_
      refine ev_iload_n (i := 2) dX7_tell_15 rfl rfl ?_
      refine ev_V1 (μ1 := mX1_has) dX7_tell_16 sX7_108 okX1_has (by first | omega | decide) (by first | assumption | (simp (disch := omega) only [mu_s, mu_n]; first | assumption | rfl)) (Nat.le_of_ble_eq_true rfl) (Nat.le_of_ble_eq_true rfl) ?_
      refine c_X1_has h2 o2 ?_
      refine ev_if_neB 24 dX7_tell_19 (by decide) (fun b19 => by rw [hy] at b19; cases b19) (fun b19 => ?_)
      refine ev_iconst (v := (-1)) dX7_tell_22 rfl ?_
      refine ev_reti dX7_tell_23 rfl rfl ?_
      exact hp M (ag_rf M _ _) h
  | false =>
    have e1 : a_tell (t, l, p, a, sl, v, sd) x y = (-1) := by unfold a_tell; rw [if_neg (fun z => by rw [hx] at z; cases z.1)]
    have e2 : n_tell (t, l, p, a, sl, v, sd) x y = (t, l, p, a, sl, v, sd) := by unfold n_tell; rw [if_neg (fun z => by rw [hx] at z; cases z.1.1)]
    rw [e1, e2] at hp
    refine ev_aload_n (i := 0) dX7_tell_0 rfl rfl ?_
    refine ev_getfield dX7_tell_1 fX7_19 (by first | omega | decide) (by first | assumption | (simp (disch := omega) only [mu_s, mu_n]; first | assumption | rfl)) (by rfl) ?_
    refine ev_iload_n (i := 1) dX7_tell_4 rfl rfl ?_
    refine ev_V1 (μ1 := mX1_has) dX7_tell_5 sX7_108 okX1_has (by first | omega | decide) (by first | assumption | (simp (disch := omega) only [mu_s, mu_n]; first | assumption | rfl)) (Nat.le_of_ble_eq_true rfl) (Nat.le_of_ble_eq_true rfl) ?_
    refine c_X1_has h2 o2 ?_
    refine ev_if_eqB 22 dX7_tell_8 (by decide) (fun b8 => ?_) (fun b8 => by rw [hx] at b8; cases b8)
    refine ev_iconst (v := (-1)) dX7_tell_22 rfl ?_
    refine ev_reti dX7_tell_23 rfl rfl ?_
    exact hp M (ag_rf M _ _) h
theorem C_untell (h : kC M s) (ho : cOk s) (hp : ∀ M1, ag M M1 0 72 → kC M1 (n_untell s) → P (some (.int (nI s.2.2.2.2.2.1.1))) M1) : Ev 88 7 mX7_untell none 0 [.ref 0, .null] [] M P := by
  obtain ⟨t, l, p, a, sl, v, sd⟩ := s
  obtain ⟨h0, h1, h2, h3, h11, h4, h5, h6, h7⟩ : kRt M sd ∧ kTx M t ∧ kLt M l ∧ kP M 8 p ∧ (∃ p, kP M 11 p) ∧ kAc M a ∧ kOv M v ∧ kSl M sl ∧ ∃ o, kTm M o := id h
  obtain ⟨o1, o2, o3, o4, o5, o6, o7⟩ : txOk t ∧ ltOk l ∧ pgOk p ∧ (∀ q ∈ a, pgOk q) ∧ a.length ≤ 14 ∧ (∀ i q, sl i = some q → pgOk q) ∧ ovOk v := ho
  have x2 := h2.1
  have hl6 : l.1 ≤ 6 := o2.1
  obtain ⟨f3, g3, x3, hf3, hg3⟩ := id h3
  have x3a := x3.1
  have h64 : 2 ^ l.1 ≤ 2 ^ 6 := pw_le hl6
  have h0p : 0 < 2 ^ l.1 := Nat.two_pow_pos _
  unfold kRt at h0
  obtain ⟨x5, x6, x7, ww, x8⟩ := id h5
  refine ev_aload_n (i := 0) dX7_untell_0 rfl rfl ?_
  refine ev_getfield dX7_untell_1 fX7_43 (by first | omega | decide) (by first | assumption | (simp (disch := omega) only [mu_s, mu_n]; first | assumption | rfl)) (by rfl) ?_
  refine ev_getfield dX7_untell_4 fX7_107 (by first | omega | decide) (by first | assumption | (simp (disch := omega) only [mu_s, mu_n]; first | assumption | rfl)) (by rfl) ?_
  refine ev_istore_n (i := 1) dX7_untell_7 rfl (by decide) rfl ?_
  refine ev_aload_n (i := 0) dX7_untell_8 rfl rfl ?_
  refine ev_getfield dX7_untell_9 fX7_43 (by first | omega | decide) (by first | assumption | (simp (disch := omega) only [mu_s, mu_n]; first | assumption | rfl)) (by rfl) ?_
  refine ev_iconst (v := nI 0) dX7_untell_12 rfl ?_
  refine ev_putI dX7_untell_13 fwX7_107 (by first | omega | decide) (by first | assumption | (simp (disch := omega) only [mu_s, mu_n]; first | assumption | rfl)) (Nat.le_of_ble_eq_true rfl) ?_
  refine ev_iload_n (i := 1) dX7_untell_16 rfl rfl ?_
  refine ev_reti dX7_untell_17 rfl rfl ?_
  refine hp _ (ag_mu (ag_rf M _ _) (by omega) (by omega)) (kC_ov h (ag_mu (ag_rf M _ _) (by omega) (by omega)) ⟨mu_s _ _ _, ?_, ?_, ww, (mu_n (by omega)).trans x8⟩)
  · obtain ⟨f, q1, q2⟩ := x6
    exact ⟨f, (mu_n (by omega)).trans q1, fun j hj => absurd hj (Nat.not_lt_zero j)⟩
  · obtain ⟨f, q1, q2⟩ := x7
    exact ⟨f, (mu_n (by omega)).trans q1, fun j hj => absurd hj (Nat.not_lt_zero j)⟩
theorem C_orders {x : Int32} (h : kC M s) (ho : cOk s) (hp : ∀ M1, ag M M1 0 72 → kC M1 s → P (some (.int (a_orders s x))) M1) : Ev 88 7 mX7_orders none 0 [.ref 0, .int x] [] M P := by
  obtain ⟨t, l, p, a, sl, v, sd⟩ := s
  obtain ⟨h0, h1, h2, h3, h11, h4, h5, h6, h7⟩ : kRt M sd ∧ kTx M t ∧ kLt M l ∧ kP M 8 p ∧ (∃ p, kP M 11 p) ∧ kAc M a ∧ kOv M v ∧ kSl M sl ∧ ∃ o, kTm M o := id h
  obtain ⟨o1, o2, o3, o4, o5, o6, o7⟩ : txOk t ∧ ltOk l ∧ pgOk p ∧ (∀ q ∈ a, pgOk q) ∧ a.length ≤ 14 ∧ (∀ i q, sl i = some q → pgOk q) ∧ ovOk v := ho
  have x2 := h2.1
  have hl6 : l.1 ≤ 6 := o2.1
  obtain ⟨f3, g3, x3, hf3, hg3⟩ := id h3
  have x3a := x3.1
  have h64 : 2 ^ l.1 ≤ 2 ^ 6 := pw_le hl6
  have h0p : 0 < 2 ^ l.1 := Nat.two_pow_pos _
  unfold kRt at h0
  have x5 := h5.1
  unfold a_orders at hp
  cases hx : inR x 2 with
  | true =>
    rw [if_pos hx] at hp
    obtain ⟨j, hj, rfl⟩ := inR_of hx (by decide)
    rw [n_cl (by omega)] at hp
    rcases (show j = 0 ∨ j = 1 by omega) with rfl | rfl
    · skip
      refine ev_iload_n (i := 1) dX7_orders_0 rfl rfl ?_
      refine ev_lsw (off := 27) 28 dX7_orders_1 (by decide) (by decide) (by decide) ?_
      refine ev_aload_n (i := 0) dX7_orders_28 rfl rfl ?_
      refine ev_getfield dX7_orders_29 fX7_43 (by first | omega | decide) (by first | assumption | (simp (disch := omega) only [mu_s, mu_n]; first | assumption | rfl)) (by rfl) ?_
      refine ev_aload_n (i := 0) dX7_orders_32 rfl rfl ?_
      refine ev_getfield dX7_orders_33 fX7_19 (by first | omega | decide) (by first | assumption | (simp (disch := omega) only [mu_s, mu_n]; first | assumption | rfl)) (by rfl) ?_
      refine ev_getfield dX7_orders_36 fX7_90 (by first | omega | decide) (by first | assumption | (simp (disch := omega) only [mu_s, mu_n]; first | assumption | rfl)) (by rfl) ?_
      refine ev_V1 (μ1 := mX2_howManyOrders) dX7_orders_39 sX7_206 okX2_howManyOrders (by first | omega | decide) (by first | assumption | (simp (disch := omega) only [mu_s, mu_n]; first | assumption | rfl)) (Nat.le_of_ble_eq_true rfl) (Nat.le_of_ble_eq_true rfl) ?_
      refine c_howManyOrders h5 o7 hl6 (fun M1 ha hz => ?_)
      refine ev_reti dX7_orders_42 rfl rfl ?_
      obtain ⟨q1, q2, q3, w, q4⟩ := id h5
      exact hp M1 (ag_wd ha) (kC_ov h (ag_wd ha) ⟨(ha _ (by omega)).trans q1, arr_ag q2 ha (by omega), arr_ag q3 ha (by omega), hz⟩)
    · skip
      refine ev_iload_n (i := 1) dX7_orders_0 rfl rfl ?_
      refine ev_lsw (off := 42) 43 dX7_orders_1 (by decide) (by decide) (by decide) ?_
      refine ev_aload_n (i := 0) dX7_orders_43 rfl rfl ?_
      refine ev_getfield dX7_orders_44 fX7_43 (by first | omega | decide) (by first | assumption | (simp (disch := omega) only [mu_s, mu_n]; first | assumption | rfl)) (by rfl) ?_
      refine ev_aload_n (i := 0) dX7_orders_47 rfl rfl ?_
      refine ev_getfield dX7_orders_48 fX7_19 (by first | omega | decide) (by first | assumption | (simp (disch := omega) only [mu_s, mu_n]; first | assumption | rfl)) (by rfl) ?_
      refine ev_getfield dX7_orders_51 fX7_90 (by first | omega | decide) (by first | assumption | (simp (disch := omega) only [mu_s, mu_n]; first | assumption | rfl)) (by rfl) ?_
      refine ev_V1 (μ1 := mX2_firstOrder) dX7_orders_54 sX7_209 okX2_firstOrder (by first | omega | decide) (by first | assumption | (simp (disch := omega) only [mu_s, mu_n]; first | assumption | rfl)) (Nat.le_of_ble_eq_true rfl) (Nat.le_of_ble_eq_true rfl) ?_
      refine c_firstOrder h5 o7 hl6 ?_
      refine ev_reti dX7_orders_57 rfl rfl ?_
      exact hp M (ag_rf M _ _) h
  | false =>
    rw [hx, if_neg (by decide)] at hp
    have e0 : ¬ x = 0 := fun z => by rw [z] at hx; revert hx; decide
    have e1 : ¬ x = 1 := fun z => by rw [z] at hx; revert hx; decide
    refine ev_iload_n (i := 1) dX7_orders_0 rfl rfl ?_
    refine ev_lsw (off := 57) 58 dX7_orders_1 (by decide) ((lv_osw (k := 0) (a := 0) (o := 27) (r := [(1, 42)]) e0 (by decide)).trans ((lv_osw (k := 1) (a := 1) (o := 42) (r := []) e1 (by decide)).trans rfl)) (by decide) ?_
    refine ev_bipush (v := (-2)) dX7_orders_58 rfl ?_
    refine ev_reti dX7_orders_60 rfl rfl ?_
    exact hp M (ag_rf M _ _) h
end CLU
