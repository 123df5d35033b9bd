theorem wb_tb (n : Nat) : (lN n).toBitVec = BitVec.ofNat 64 n := rfl
theorem wb_inj {a b : Int64} (h : a.toBitVec = b.toBitVec) : a = b := Int64.toBitVec_inj.mp h
theorem wb_tn {n : Nat} (h : n < 2 ^ 64) : (lN n).toBitVec.toNat = n := by rw [wb_tb, BitVec.toNat_ofNat, Nat.mod_eq_of_lt h]
theorem wb_of (x : Int64) : ∃ n, n < 2 ^ 64 ∧ x = lN n := ⟨x.toBitVec.toNat, x.toBitVec.isLt, wb_inj (by rw [wb_tb]; simp)⟩
theorem wb_cu : ∀ k, k < 64 → ((nI k).toInt64.toUInt64 &&& Int64.toUInt64 63) = UInt64.ofNat k := by decide +kernel
theorem wb_shr {n k : Nat} (hn : n < 2 ^ 64) (hk : k < 64) : ((lN n).toUInt64 >>> ((nI k).toInt64.toUInt64 &&& Int64.toUInt64 63)).toInt64 = lN (n / 2 ^ k) := by
  rw [wb_cu k hk]
  apply wb_inj
  apply BitVec.eq_of_toNat_eq
  show ((lN n).toUInt64 >>> UInt64.ofNat k).toNat = (BitVec.ofNat 64 _).toNat
  have h1 : (UInt64.ofNat k).toNat = k := by
    show (BitVec.ofNat 64 k).toNat = k
    rw [BitVec.toNat_ofNat, Nat.mod_eq_of_lt (by omega)]
  have h2 : (lN n).toUInt64.toNat = n := wb_tn hn
  rw [UInt64.toNat_shiftRight, h1, h2, Nat.mod_eq_of_lt hk, Nat.shiftRight_eq_div_pow, BitVec.toNat_ofNat, Nat.mod_eq_of_lt (Nat.lt_of_le_of_lt (Nat.div_le_self _ _) hn)]
theorem lot_ok (x : Int64) : (let u := (x.toUInt64 >>> ((nI 33).toInt64.toUInt64 &&& Int64.toUInt64 63)).toInt64; (u - u / 9 * 9).toInt32) = nI (lotN x) := by
  obtain ⟨n, hn, rfl⟩ := wb_of x
  have h1 : n / 2 ^ 33 < 2 ^ 63 := Nat.lt_of_le_of_lt (Nat.div_le_div_right (Nat.le_of_lt hn)) (by decide)
  show ((((lN n).toUInt64 >>> ((nI 33).toInt64.toUInt64 &&& Int64.toUInt64 63)).toInt64) - (((lN n).toUInt64 >>> ((nI 33).toInt64.toUInt64 &&& Int64.toUInt64 63)).toInt64) / lN 9 * lN 9).toInt32 = _
  rw [wb_shr hn (by decide), pk_lRem h1 (by decide) (by decide), lN_i]
  unfold lotN
  rw [wb_tn hn]
theorem bfN_ok {t : lt} {k : Nat} {p : pg} (ht : ltOk t) (h : pgOk p) : pgOk (bfN t k p) := by
  have := ht.1
  unfold bfN
  split
  · exact pgPress_ok h (by omega)
  · split
    · exact pgDay_ok h
    · split
      · exact pgNew_ok _
      · exact h
section CLY
variable {M : mM} {P : Option Value → mM → Prop} {s : cs}
theorem c_befall {t : lt} {sd : Int64} {q : pg} {k d : Nat} (hR : kRt M sd) (hL : kLt M t) (ho : ltOk t) (hq : kP M 11 q) (hqo : pgOk q) (hk : k < 9) (hp : ∀ M1, ag M M1 11 14 → kP M1 11 (bfN t k q) → P none M1) : Ev 88 (d + 3) mX7_befall none 0 [.ref 0, .int (nI k)] [] M P := by
  have x2 := hL.1
  have hl6 := ho.1
  obtain ⟨f3, g3, x3, -⟩ := id hq
  have x3a := x3.1
  unfold kRt at hR
  cases hx : inR (nI k) t.1 with
  | true =>
    have hkt : k < t.1 := by rw [inR_nI (by omega)] at hx; exact of_decide_eq_true hx
    have e : bfN t k q = pgPress (t.2.2.2.2 k) (t.2.2.2.1 k) k q := by unfold bfN; rw [if_pos hkt]
    have hcl := (ltOk_cells ho hkt).1
    have hfo := (ho.2 k hkt).2.2.1
    rw [e] at hp
    refine ev_aload_n (i := 0) dX7_befall_0 rfl rfl ?_
    refine ev_getfield dX7_befall_1 fX7_19 (by first | omega | decide) (by first | assumption | (simp (disch := omega) only [mu_s, mu_n]; first | assumption | rfl)) (by rfl) ?_
    refine ev_iload_n (i := 1) dX7_befall_4 rfl rfl ?_
    refine ev_V1 (μ1 := mX1_has) dX7_befall_5 sX7_108 okX1_has (by first | omega | decide) (by first | assumption | (simp (disch := omega) only [mu_s, mu_n]; first | assumption | rfl)) (Nat.le_of_ble_eq_true rfl) (Nat.le_of_ble_eq_true rfl) ?_
    refine c_X1_has hL ho ?_
    refine ev_if_eqB 38 dX7_befall_8 (by decide) (fun b8 => by rw [hx] at b8; cases b8) (fun b8 => ?_)
    refine ev_aload_n (i := 0) dX7_befall_11 rfl rfl ?_
    refine ev_getfield dX7_befall_12 fX7_30 (by first | omega | decide) (by first | assumption | (simp (disch := omega) only [mu_s, mu_n]; first | assumption | rfl)) (by rfl) ?_
    refine ev_aload_n (i := 0) dX7_befall_15 rfl rfl ?_
    refine ev_getfield dX7_befall_16 fX7_19 (by first | omega | decide) (by first | assumption | (simp (disch := omega) only [mu_s, mu_n]; first | assumption | rfl)) (by rfl) ?_
    refine ev_iload_n (i := 1) dX7_befall_19 rfl rfl ?_
    refine ev_V1 (μ1 := mX1_cellsOf) dX7_befall_20 sX7_120 okX1_cellsOf (by first | omega | decide) (by first | assumption | (simp (disch := omega) only [mu_s, mu_n]; first | assumption | rfl)) (Nat.le_of_ble_eq_true rfl) (Nat.le_of_ble_eq_true rfl) ?_
    refine c_X1_cellsOf hL ho hkt ?_
    refine ev_aload_n (i := 0) dX7_befall_23 rfl rfl ?_
    refine ev_getfield dX7_befall_24 fX7_19 (by first | omega | decide) (by first | assumption | (simp (disch := omega) only [mu_s, mu_n]; first | assumption | rfl)) (by rfl) ?_
    refine ev_iload_n (i := 1) dX7_befall_27 rfl rfl ?_
    refine ev_V1 (μ1 := mX1_forceOf) dX7_befall_28 sX7_117 okX1_forceOf (by first | omega | decide) (by first | assumption | (simp (disch := omega) only [mu_s, mu_n]; first | assumption | rfl)) (Nat.le_of_ble_eq_true rfl) (Nat.le_of_ble_eq_true rfl) ?_
    refine c_X1_forceOf hL ho hkt ?_
    refine ev_iload_n (i := 1) dX7_befall_31 rfl rfl ?_
    refine ev_V3 (μ1 := mX3_addInk) dX7_befall_32 sX7_140 okX3_addInk (by first | omega | decide) (by first | assumption | (simp (disch := omega) only [mu_s, mu_n]; first | assumption | rfl)) (Nat.le_of_ble_eq_true rfl) (Nat.le_of_ble_eq_true rfl) ?_
    refine q_addInk (by omega) hq hqo (by omega) hfo (fun M1 ha hk1 => ?_)
    refine ev_goto 73 dX7_befall_35 (by decide) ?_
    refine ev_ret0 dX7_befall_73 rfl ?_
    exact hp M1 ha hk1
  | false =>
    have hkt : ¬ k < t.1 := by rw [inR_nI (by omega)] at hx; exact of_decide_eq_false hx
    have e : bfN t k q = (if k = 6 ∨ k = 7 then pgDay q else if k = 8 then pgNew q.2.2 else q) := by unfold bfN; rw [if_neg hkt]
    rw [e] at hp
    by_cases h6 : k = 6
    · rw [if_pos (Or.inl h6)] at hp
      refine ev_aload_n (i := 0) dX7_befall_0 rfl rfl ?_
      refine ev_getfield dX7_befall_1 fX7_19 (by first | omega | decide) (by first | assumption | (simp (disch := omega) only [mu_s, mu_n]; first | assumption | rfl)) (by rfl) ?_
      refine ev_iload_n (i := 1) dX7_befall_4 rfl rfl ?_
      refine ev_V1 (μ1 := mX1_has) dX7_befall_5 sX7_108 okX1_has (by first | omega | decide) (by first | assumption | (simp (disch := omega) only [mu_s, mu_n]; first | assumption | rfl)) (Nat.le_of_ble_eq_true rfl) (Nat.le_of_ble_eq_true rfl) ?_
      refine c_X1_has hL ho ?_
      refine ev_if_eqB 38 dX7_befall_8 (by decide) (fun b8 => ?_) (fun b8 => by rw [hx] at b8; cases b8)
      refine ev_iload_n (i := 1) dX7_befall_38 rfl rfl ?_
      refine ev_bipush (v := nI 6) dX7_befall_39 rfl ?_
      refine ev_icmp_eqN 50 dX7_befall_41 (by decide) (by omega) (by omega) (fun b41 => ?_) (fun b41 => by exfalso; omega)
      refine ev_aload_n (i := 0) dX7_befall_50 rfl rfl ?_
      refine ev_getfield dX7_befall_51 fX7_30 (by first | omega | decide) (by first | assumption | (simp (disch := omega) only [mu_s, mu_n]; first | assumption | rfl)) (by rfl) ?_
      refine ev_V0 (μ1 := mX3_dry) dX7_befall_54 sX7_149 okX3_dry (by first | omega | decide) (by first | assumption | (simp (disch := omega) only [mu_s, mu_n]; first | assumption | rfl)) (Nat.le_of_ble_eq_true rfl) (Nat.le_of_ble_eq_true rfl) ?_
      refine q_dry (by omega) hq hqo (fun M1 ha hk1 => ?_)
      refine ev_goto 73 dX7_befall_57 (by decide) ?_
      refine ev_ret0 dX7_befall_73 rfl ?_
      exact hp M1 ha hk1
    · by_cases h7 : k = 7
      · rw [if_pos (Or.inr h7)] at hp
        refine ev_aload_n (i := 0) dX7_befall_0 rfl rfl ?_
        refine ev_getfield dX7_befall_1 fX7_19 (by first | omega | decide) (by first | assumption | (simp (disch := omega) only [mu_s, mu_n]; first | assumption | rfl)) (by rfl) ?_
        refine ev_iload_n (i := 1) dX7_befall_4 rfl rfl ?_
        refine ev_V1 (μ1 := mX1_has) dX7_befall_5 sX7_108 okX1_has (by first | omega | decide) (by first | assumption | (simp (disch := omega) only [mu_s, mu_n]; first | assumption | rfl)) (Nat.le_of_ble_eq_true rfl) (Nat.le_of_ble_eq_true rfl) ?_
        refine c_X1_has hL ho ?_
        refine ev_if_eqB 38 dX7_befall_8 (by decide) (fun b8 => ?_) (fun b8 => by rw [hx] at b8; cases b8)
        refine ev_iload_n (i := 1) dX7_befall_38 rfl rfl ?_
        refine ev_bipush (v := nI 6) dX7_befall_39 rfl ?_
        refine ev_icmp_eqN 50 dX7_befall_41 (by decide) (by omega) (by omega) (fun b41 => by exfalso; omega) (fun b41 => ?_)
        refine ev_iload_n (i := 1) dX7_befall_44 rfl rfl ?_
        refine ev_bipush (v := nI 7) dX7_befall_45 rfl ?_
        refine ev_icmp_neN 60 dX7_befall_47 (by decide) (by omega) (by omega) (fun b47 => by exfalso; omega) (fun b47 => ?_)
        refine ev_aload_n (i := 0) dX7_befall_50 rfl rfl ?_
        refine ev_getfield dX7_befall_51 fX7_30 (by first | omega | decide) (by first | assumption | (simp (disch := omega) only [mu_s, mu_n]; first | assumption | rfl)) (by rfl) ?_
        refine ev_V0 (μ1 := mX3_dry) dX7_befall_54 sX7_149 okX3_dry (by first | omega | decide) (by first | assumption | (simp (disch := omega) only [mu_s, mu_n]; first | assumption | rfl)) (Nat.le_of_ble_eq_true rfl) (Nat.le_of_ble_eq_true rfl) ?_
        refine q_dry (by omega) hq hqo (fun M1 ha hk1 => ?_)
        refine ev_goto 73 dX7_befall_57 (by decide) ?_
        refine ev_ret0 dX7_befall_73 rfl ?_
        exact hp M1 ha hk1
      · rw [if_neg (by omega)] at hp
        by_cases h8 : k = 8
        · rw [if_pos h8] at hp
          refine ev_aload_n (i := 0) dX7_befall_0 rfl rfl ?_
          refine ev_getfield dX7_befall_1 fX7_19 (by first | omega | decide) (by first | assumption | (simp (disch := omega) only [mu_s, mu_n]; first | assumption | rfl)) (by rfl) ?_
          refine ev_iload_n (i := 1) dX7_befall_4 rfl rfl ?_
          refine ev_V1 (μ1 := mX1_has) dX7_befall_5 sX7_108 okX1_has (by first | omega | decide) (by first | assumption | (simp (disch := omega) only [mu_s, mu_n]; first | assumption | rfl)) (Nat.le_of_ble_eq_true rfl) (Nat.le_of_ble_eq_true rfl) ?_
          refine c_X1_has hL ho ?_
          refine ev_if_eqB 38 dX7_befall_8 (by decide) (fun b8 => ?_) (fun b8 => by rw [hx] at b8; cases b8)
          refine ev_iload_n (i := 1) dX7_befall_38 rfl rfl ?_
          refine ev_bipush (v := nI 6) dX7_befall_39 rfl ?_
          refine ev_icmp_eqN 50 dX7_befall_41 (by decide) (by omega) (by omega) (fun b41 => by exfalso; omega) (fun b41 => ?_)
          refine ev_iload_n (i := 1) dX7_befall_44 rfl rfl ?_
          refine ev_bipush (v := nI 7) dX7_befall_45 rfl ?_
          refine ev_icmp_neN 60 dX7_befall_47 (by decide) (by omega) (by omega) (fun b47 => ?_) (fun b47 => by exfalso; omega)
          refine ev_iload_n (i := 1) dX7_befall_60 rfl rfl ?_
          refine ev_bipush (v := nI 8) dX7_befall_61 rfl ?_
          refine ev_icmp_neN 73 dX7_befall_63 (by decide) (by omega) (by omega) (fun b63 => by exfalso; omega) (fun b63 => ?_)
          refine ev_aload_n (i := 0) dX7_befall_66 rfl rfl ?_
          refine ev_getfield dX7_befall_67 fX7_30 (by first | omega | decide) (by first | assumption | (simp (disch := omega) only [mu_s, mu_n]; first | assumption | rfl)) (by rfl) ?_
          refine ev_V0 (μ1 := mX3_renew) dX7_befall_70 sX7_80 okX3_renew (by first | omega | decide) (by first | assumption | (simp (disch := omega) only [mu_s, mu_n]; first | assumption | rfl)) (Nat.le_of_ble_eq_true rfl) (Nat.le_of_ble_eq_true rfl) ?_
          refine q_renew (by omega) hq (fun M1 ha hk1 => ?_)
          refine ev_ret0 dX7_befall_73 rfl ?_
          exact hp M1 ha hk1
        · rw [if_neg h8] at hp
          refine ev_aload_n (i := 0) dX7_befall_0 rfl rfl ?_
          refine ev_getfield dX7_befall_1 fX7_19 (by first | omega | decide) (by first | assumption | (simp (disch := omega) only [mu_s, mu_n]; first | assumption | rfl)) (by rfl) ?_
          refine ev_iload_n (i := 1) dX7_befall_4 rfl rfl ?_
          refine ev_V1 (μ1 := mX1_has) dX7_befall_5 sX7_108 okX1_has (by first | omega | decide) (by first | assumption | (simp (disch := omega) only [mu_s, mu_n]; first | assumption | rfl)) (Nat.le_of_ble_eq_true rfl) (Nat.le_of_ble_eq_true rfl) ?_
          refine c_X1_has hL ho ?_
          refine ev_if_eqB 38 dX7_befall_8 (by decide) (fun b8 => ?_) (fun b8 => by rw [hx] at b8; cases b8)
          refine ev_iload_n (i := 1) dX7_befall_38 rfl rfl ?_
          refine ev_bipush (v := nI 6) dX7_befall_39 rfl ?_
          refine ev_icmp_eqN 50 dX7_befall_41 (by decide) (by omega) (by omega) (fun b41 => by exfalso; omega) (fun b41 => ?_)
          refine ev_iload_n (i := 1) dX7_befall_44 rfl rfl ?_
          refine ev_bipush (v := nI 7) dX7_befall_45 rfl ?_
          refine ev_icmp_neN 60 dX7_befall_47 (by decide) (by omega) (by omega) (fun b47 => ?_) (fun b47 => by exfalso; omega)
          refine ev_iload_n (i := 1) dX7_befall_60 rfl rfl ?_
          refine ev_bipush (v := nI 8) dX7_befall_61 rfl ?_
          refine ev_icmp_neN 73 dX7_befall_63 (by decide) (by omega) (by omega) (fun b63 => ?_) (fun b63 => by exfalso; omega)
          refine ev_ret0 dX7_befall_73 rfl ?_
          exact hp M (ag_rf M _ _) hq
theorem C_years {x : Int32} (h : kC M s) (ho : cOk s) (hp : ∀ M1, ag M M1 0 72 → kC M1 (n_years s x) → P (some (.int (a_years s x))) M1) : Ev 88 7 mX7_years none 0 [.ref 0, .int x, .null, .null] [] M P := by
  obtain ⟨t, l, p, a, sl, v, sd⟩ := s
  obtain ⟨h0, h1, h2, h3, h11, h4, h5, h6, h7⟩ : kRt M sd ∧ kTx M t ∧ kLt M l ∧ kP M 8 p ∧ (∃ p, kP M 11 p) ∧ kAc M a ∧ kOv M v ∧ kSl M sl ∧ ∃ o, kTm M o := id h
  obtain ⟨o1, o2, o3, o4, o5, o6, o7⟩ : txOk t ∧ ltOk l ∧ pgOk p ∧ (∀ q ∈ a, pgOk q) ∧ a.length ≤ 14 ∧ (∀ i q, sl i = some q → pgOk q) ∧ ovOk v := ho
  have x2 := h2.1
  have hl6 : l.1 ≤ 6 := o2.1
  obtain ⟨f3, g3, x3, hf3, hg3⟩ := id h3
  have x3a := x3.1
  have h64 : 2 ^ l.1 ≤ 2 ^ 6 := pw_le hl6
  have h0p : 0 < 2 ^ l.1 := Nat.two_pow_pos _
  unfold kRt at h0
  obtain ⟨p11, h11⟩ := h11
  obtain ⟨f11, g11, x11, -⟩ := id h11
  have x11a := x11.1
  by_cases hx : inR x 31 = true ∧ x.toNatClampNeg ≠ 0
  · obtain ⟨w, hw, rfl⟩ := inR_of hx.1 (by decide)
    have hcl : (nI w).toNatClampNeg = w := n_cl (by omega)
    have e1 : a_years (t, l, p, a, sl, v, sd) (nI w) = nI (yrN l w p sd 0).1 := by unfold a_years; rw [if_pos hx, hcl]
    have e2 : n_years (t, l, p, a, sl, v, sd) (nI w) = (t, l, p, a, sl, v, (yrN l w p sd 0).2) := by unfold n_years; rw [if_pos hx, hcl]
    have hw0 : w ≠ 0 := by rw [hcl] at hx; exact hx.2
    rw [e1, e2] at hp
    have lp : ∀ (j y acc : Nat) (q : pg) (sd1 : Int64) (M1 : mM), y + j = w → ag M M1 0 72 → kC M1 (t, l, p, a, sl, v, sd1) → kP M1 11 q → pgOk q → yrN l w p sd 0 = yrN l j q sd1 acc → Ev 88 7 mX7_years none 29 [.ref 0, .int (nI w), .int (nI acc), .int (nI y)] [] M1 P := by
      intro j
      induction j with
      | zero =>
        intro y acc q sd1 M1 hy ha hC hq hqo e
        obtain rfl : y = w := by omega
        rw [e] at hp
        refine ev_iload_n (i := 3) dX7_years_29 rfl rfl ?_
        refine ev_iload_n (i := 1) dX7_years_30 rfl rfl ?_
        refine ev_icmp_geN 93 dX7_years_31 (by decide) (by omega) (by omega) (fun b31 => ?_) (fun b31 => by exfalso; omega)
        refine ev_iload_n (i := 2) dX7_years_93 rfl rfl ?_
        refine ev_reti dX7_years_94 rfl rfl ?_
        exact hp M1 ha hC
      | succ j ih =>
        intro y acc q sd1 M1 hy ha hC hq hqo e
        have y0 := hC.1
        unfold kRt at y0
        have eA : ag M1 (mu M1 0 (.inr (7, [.ref 1, .ref 3, .ref 8, .ref 11, .ref 14, .ref 58, .ref 62, .ref 70, .long (sdN sd1)]))) 0 1 := ag_mu (ag_rf M1 _ _) (by omega) (by omega)
        have hC2 := kC_sd hC eA (mu_s _ _ _)
        have hq2 := kP_ag hq eA (by omega)
        have y2 := hC2.2.2.1.1
        have hL2 : kLt (mu M1 0 (.inr (7, [.ref 1, .ref 3, .ref 8, .ref 11, .ref 14, .ref 58, .ref 62, .ref 70, .long (sdN sd1)]))) l := hC2.2.2.1
        have hlot : lotN (sdN sd1) < 9 := by unfold lotN; omega
        refine ev_iload_n (i := 3) dX7_years_29 rfl rfl ?_
        refine ev_iload_n (i := 1) dX7_years_30 rfl rfl ?_
        refine ev_icmp_geN 93 dX7_years_31 (by decide) (by omega) (by omega) (fun b31 => by exfalso; omega) (fun b31 => ?_)
        refine ev_aload_n (i := 0) dX7_years_34 rfl rfl ?_
        refine ev_aload_n (i := 0) dX7_years_35 rfl rfl ?_
        refine ev_getfield dX7_years_36 fX7_61 (by first | omega | decide) (by first | assumption | (simp (disch := omega) only [mu_s, mu_n]; first | assumption | rfl)) (by rfl) ?_
        refine ev_ldc2_w dX7_years_39 kX7_223 ?_
        refine ev_lmul dX7_years_42 ?_
        refine ev_ldc2_w dX7_years_43 kX7_225 ?_
        refine ev_ladd dX7_years_46 ?_
        refine ev_putJ dX7_years_47 fwX7_61 (by first | omega | decide) (by first | assumption | (simp (disch := omega) only [mu_s, mu_n]; first | assumption | rfl)) (Nat.le_of_ble_eq_true rfl) ?_
        refine ev_aload_n (i := 0) dX7_years_50 rfl rfl ?_
        refine ev_aload_n (i := 0) dX7_years_51 rfl rfl ?_
        refine ev_getfield dX7_years_52 fX7_61 (by first | omega | decide) (by first | assumption | (simp (disch := omega) only [mu_s, mu_n]; first | assumption | rfl)) (by rfl) ?_
        refine ev_bipush (v := nI 33) dX7_years_55 rfl ?_
        refine ev_lushr dX7_years_57 rfl ?_
        refine ev_ldc2_w dX7_years_58 kX7_227 ?_
        refine ev_lrem dX7_years_61 (by decide) ?_
        refine ev_l2i dX7_years_62 rfl ?_
        refine ev_top (i_op (lot_ok (sdN sd1))) ?_
        refine ev_mem (M1 := mu M1 0 (.inr (7, [.ref 1, .ref 3, .ref 8, .ref 11, .ref 14, .ref 58, .ref 62, .ref 70, .long (sdN sd1)]))) rfl ?_
        refine ev_V1 (μ1 := mX7_befall) dX7_years_63 sX7_229 okX7_befall (by first | omega | decide) (by first | assumption | (simp (disch := omega) only [mu_s, mu_n]; first | assumption | rfl)) (Nat.le_of_ble_eq_true rfl) (Nat.le_of_ble_eq_true rfl) ?_
        refine c_befall (mu_s _ _ _) hL2 o2 hq2 hqo hlot (fun M2 ha2 hq3 => ?_)
        have hC3 := kC_tr hC2 ha2 hq3
        have z0 := hC3.1
        have z2 := hC3.2.2.1.1
        obtain ⟨f5, g5, z5, -⟩ := id hq3
        have z5a := z5.1
        unfold kRt at z0
        refine ev_iload_n (i := 2) dX7_years_66 rfl rfl ?_
        refine ev_aload_n (i := 0) dX7_years_67 rfl rfl ?_
        refine ev_getfield dX7_years_68 fX7_19 (by first | omega | decide) (by first | assumption | (simp (disch := omega) only [mu_s, mu_n]; first | assumption | rfl)) (by rfl) ?_
        refine ev_aload_n (i := 0) dX7_years_71 rfl rfl ?_
        refine ev_getfield dX7_years_72 fX7_30 (by first | omega | decide) (by first | assumption | (simp (disch := omega) only [mu_s, mu_n]; first | assumption | rfl)) (by rfl) ?_
        refine ev_iconst (v := nI 0) dX7_years_75 rfl ?_
        refine ev_V1 (μ1 := mX3_shownIn) dX7_years_76 sX7_93 okX3_shownIn (by first | omega | decide) (by first | assumption | (simp (disch := omega) only [mu_s, mu_n]; first | assumption | rfl)) (Nat.le_of_ble_eq_true rfl) (Nat.le_of_ble_eq_true rfl) ?_
        refine q_shownIn (by omega) hq3 (bfN_ok o2 hqo) (by decide) ?_
        refine ev_V1 (μ1 := mX1_readable) dX7_years_79 sX7_100 okX1_readable (by first | omega | decide) (by first | assumption | (simp (disch := omega) only [mu_s, mu_n]; first | assumption | rfl)) (Nat.le_of_ble_eq_true rfl) (Nat.le_of_ble_eq_true rfl) ?_
        refine c_X1_readable hC3.2.2.1 o2 ?_
        refine ev_S1 (μ1 := mJ6_bitCount_0f7a4) dX7_years_82 sX7_144 okJ6_bitCount_0f7a4 (Nat.le_of_ble_eq_true rfl) (Nat.le_of_ble_eq_true rfl) ?_
        refine c_bitCount (rd_lt o2 _) ?_
        refine ev_iaddN dX7_years_85 ?_
        refine ev_istore_n (i := 2) dX7_years_86 rfl (by decide) rfl ?_
        refine ev_incN dX7_years_87 (by rfl) (by decide) rfl ?_
        refine ev_goto 29 dX7_years_90 (by decide) ?_
        exact ih _ _ _ _ M2 (by omega) (ag_tr (ag_tr ha eA : ag M _ 0 72) ha2) hC3 hq3 (bfN_ok o2 hqo) (e.trans rfl)
    refine ev_iload_n (i := 1) dX7_years_0 rfl rfl ?_
    refine ev_iconst (v := nI 1) dX7_years_1 rfl ?_
    refine ev_icmp_ltN 11 dX7_years_2 (by decide) (by omega) (by omega) (fun b2 => by exfalso; omega) (fun b2 => ?_)
    refine ev_iload_n (i := 1) dX7_years_5 rfl rfl ?_
    refine ev_bipush (v := nI 30) dX7_years_6 rfl ?_
    refine ev_icmp_leN 14 dX7_years_8 (by decide) (by omega) (by omega) (fun b8 => ?_) (fun b8 => by exfalso; omega)
    refine ev_aload_n (i := 0) dX7_years_14 rfl rfl ?_
    refine ev_getfield dX7_years_15 fX7_26 (by first | omega | decide) (by first | assumption | (simp (disch := omega) only [mu_s, mu_n]; first | assumption | rfl)) (by rfl) ?_
    refine ev_aload_n (i := 0) dX7_years_18 rfl rfl ?_
    refine ev_getfield dX7_years_19 fX7_30 (by first | omega | decide) (by first | assumption | (simp (disch := omega) only [mu_s, mu_n]; first | assumption | rfl)) (by rfl) ?_
    refine ev_S2 (μ1 := mX7_copy) dX7_years_22 sX7_219 okX7_copy (Nat.le_of_ble_eq_true rfl) (Nat.le_of_ble_eq_true rfl) ?_
    refine q_copy (by omega) (by omega) (by omega) h3 x11 (fun M1 ha hk => ?_)
    refine ev_iconst (v := nI 0) dX7_years_25 rfl ?_
    refine ev_istore_n (i := 2) dX7_years_26 rfl (by decide) rfl ?_
    refine ev_iconst (v := nI 0) dX7_years_27 rfl ?_
    refine ev_istore_n (i := 3) dX7_years_28 rfl (by decide) rfl ?_
    exact lp w 0 0 p sd M1 (by omega) (ag_wd ha) (kC_tr h ha hk) hk o3 rfl
  · have e1 : a_years (t, l, p, a, sl, v, sd) x = (-2) := by unfold a_years; rw [if_neg hx]
    have e2 : n_years (t, l, p, a, sl, v, sd) x = (t, l, p, a, sl, v, sd) := by unfold n_years; rw [if_neg hx]
    rw [e1, e2] at hp
    cases hy : inR x 31 with
    | true =>
      obtain ⟨w, hw, rfl⟩ := inR_of hy (by decide)
      have hcl : (nI w).toNatClampNeg = w := n_cl (by omega)
      have hw0 : w = 0 := by
        rcases Nat.eq_zero_or_pos w with z | z
        · exact z
        · exact absurd ⟨hy, by rw [hcl]; omega⟩ hx
      refine ev_iload_n (i := 1) dX7_years_0 rfl rfl ?_
      refine ev_iconst (v := nI 1) dX7_years_1 rfl ?_
      refine ev_icmp_ltN 11 dX7_years_2 (by decide) (by omega) (by omega) (fun b2 => ?_) (fun b2 => by exfalso; omega)
      refine ev_bipush (v := (-2)) dX7_years_11 rfl ?_
      refine ev_reti dX7_years_13 rfl rfl ?_
      exact hp M (ag_rf M _ _) h
    | false =>
      rcases inR_no hy (by decide) with hx1 | ⟨hx1, hx2⟩
      · have hx3 : x < nI 1 := by
          rw [Int32.lt_iff_toInt_lt, Int32.toInt_zero] at hx1
          rw [Int32.lt_iff_toInt_lt, nI_toInt (by decide)]
          omega
        refine ev_iload_n (i := 1) dX7_years_0 rfl rfl ?_
        refine ev_iconst (v := nI 1) dX7_years_1 rfl ?_
        refine ev_icmp_lt 11 dX7_years_2 (by decide) (fun b2 => ?_) (fun b2 => absurd hx3 b2)
        refine ev_bipush (v := (-2)) dX7_years_11 rfl ?_
        refine ev_reti dX7_years_13 rfl rfl ?_
        exact hp M (ag_rf M _ _) h
      · have hx3 : ¬ x ≤ nI 30 := Int32.not_le.mpr (nI_lt_of_le hx2 (by decide))
        have hx4 : ¬ x < nI 1 := by
          rw [Int32.le_iff_toInt_le, nI_toInt (by decide)] at hx2
          rw [Int32.lt_iff_toInt_lt, nI_toInt (by decide)]
          omega
        refine ev_iload_n (i := 1) dX7_years_0 rfl rfl ?_
        refine ev_iconst (v := nI 1) dX7_years_1 rfl ?_
        refine ev_icmp_lt 11 dX7_years_2 (by decide) (fun b2 => absurd b2 hx4) (fun b2 => ?_)
        refine ev_iload_n (i := 1) dX7_years_5 rfl rfl ?_
        refine ev_bipush (v := nI 30) dX7_years_6 rfl ?_
        refine ev_icmp_le 14 dX7_years_8 (by decide) (fun b8 => absurd b8 hx3) (fun b8 => ?_)
        refine ev_bipush (v := (-2)) dX7_years_11 rfl ?_
        refine ev_reti dX7_years_13 rfl rfl ?_
        exact hp M (ag_rf M _ _) h
/-! the office -/
theorem c_forceBy {N d s h : Nat} (hs : s < 2 ^ 31) (hs1 : 1 ≤ s) (hh : h < 2 ^ 31) (hp : P (some (.int (nI (frN s h)))) M) : Ev N d mX1_forceBy none 0 [.int (nI s), .int (nI h)] [] M P := by
  unfold frN at hp
  by_cases h1 : h = 1
  · rw [if_pos h1] at hp
    refine ev_iload_n (i := 1) dX1_forceBy_0 rfl rfl ?_
    refine ev_iconst (v := nI 1) dX1_forceBy_1 rfl ?_
    refine ev_icmp_neN 9 dX1_forceBy_2 (by decide) (by omega) (by omega) (fun b2 => by exfalso; omega) (fun b2 => ?_)
    refine ev_iload_n (i := 0) dX1_forceBy_5 rfl rfl ?_
    refine ev_iconst (v := nI 1) dX1_forceBy_6 rfl ?_
    refine ev_isubN dX1_forceBy_7 (by omega) ?_
    refine ev_reti dX1_forceBy_8 rfl rfl ?_
    exact hp
  · rw [if_neg h1] at hp
    by_cases h2 : h = 2
    · rw [if_pos h2] at hp
      refine ev_iload_n (i := 1) dX1_forceBy_0 rfl rfl ?_
      refine ev_iconst (v := nI 1) dX1_forceBy_1 rfl ?_
      refine ev_icmp_neN 9 dX1_forceBy_2 (by decide) (by omega) (by omega) (fun b2 => ?_) (fun b2 => by exfalso; omega)
      refine ev_iload_n (i := 1) dX1_forceBy_9 rfl rfl ?_
      refine ev_iconst (v := nI 2) dX1_forceBy_10 rfl ?_
      refine ev_icmp_neN 20 dX1_forceBy_11 (by decide) (by omega) (by omega) (fun b11 => by exfalso; omega) (fun b11 => ?_)
      refine ev_iload_n (i := 0) dX1_forceBy_14 rfl rfl ?_
      refine ev_iconst (v := nI 1) dX1_forceBy_15 rfl ?_
      refine ev_iaddN dX1_forceBy_16 ?_
      refine ev_goto 21 dX1_forceBy_17 (by decide) ?_
      refine ev_reti dX1_forceBy_21 rfl rfl ?_
      exact hp
    · rw [if_neg h2] at hp
      refine ev_iload_n (i := 1) dX1_forceBy_0 rfl rfl ?_
      refine ev_iconst (v := nI 1) dX1_forceBy_1 rfl ?_
      refine ev_icmp_neN 9 dX1_forceBy_2 (by decide) (by omega) (by omega) (fun b2 => ?_) (fun b2 => by exfalso; omega)
      refine ev_iload_n (i := 1) dX1_forceBy_9 rfl rfl ?_
      refine ev_iconst (v := nI 2) dX1_forceBy_10 rfl ?_
      refine ev_icmp_neN 20 dX1_forceBy_11 (by decide) (by omega) (by omega) (fun b11 => ?_) (fun b11 => by exfalso; omega)
      refine ev_iload_n (i := 0) dX1_forceBy_20 rfl rfl ?_
      refine ev_reti dX1_forceBy_21 rfl rfl ?_
      exact hp
theorem c_marksBy {N d m h : Nat} (hm : m < 2 ^ 31) (hh : h < 2 ^ 31) (hp : P (some (.int (nI (mkN m h)))) M) : Ev N d mX1_marksBy none 0 [.int (nI m), .int (nI h), .null, .null] [] M P := by
  unfold mkN at hp
  by_cases h3 : h = 3
  · rw [if_pos h3] at hp
    have lp : ∀ (j b : Nat), b + j = 4 → Ev N d mX1_marksBy none 11 [.int (nI m), .int (nI h), .int (nI (tnN m b)), .int (nI b)] [] M P := by
      intro j
      induction j with
      | zero =>
        intro b hb
        obtain rfl : b = 4 := by omega
        refine ev_iload_n (i := 3) dX1_marksBy_11 rfl rfl ?_
        refine ev_iconst (v := nI 4) dX1_marksBy_12 rfl ?_
        refine ev_icmp_geN 34 dX1_marksBy_13 (by decide) (by omega) (by omega) (fun b13 => ?_) (fun b13 => by exfalso; omega)
        refine ev_iload_n (i := 2) dX1_marksBy_34 rfl rfl ?_
        refine ev_reti dX1_marksBy_35 rfl rfl ?_
        exact hp
      | succ j ih =>
        intro b hb
        refine ev_iload_n (i := 3) dX1_marksBy_11 rfl rfl ?_
        refine ev_iconst (v := nI 4) dX1_marksBy_12 rfl ?_
        refine ev_icmp_geN 34 dX1_marksBy_13 (by decide) (by omega) (by omega) (fun b13 => by exfalso; omega) (fun b13 => ?_)
        refine ev_iload_n (i := 2) dX1_marksBy_16 rfl rfl ?_
        refine ev_iload_n (i := 0) dX1_marksBy_17 rfl rfl ?_
        refine ev_iload_n (i := 3) dX1_marksBy_18 rfl rfl ?_
        refine ev_ishrN dX1_marksBy_19 (by omega) (by omega) ?_
        refine ev_iconst (v := nI 1) dX1_marksBy_20 rfl ?_
        refine ev_iand1 dX1_marksBy_21 ?_
        refine ev_iconst (v := nI 3) dX1_marksBy_22 rfl ?_
        refine ev_iload_n (i := 3) dX1_marksBy_23 rfl rfl ?_
        refine ev_isubN dX1_marksBy_24 (by omega) ?_
        refine ev_ishlN dX1_marksBy_25 (by omega) ?_
        refine ev_iorN dX1_marksBy_26 ?_
        refine ev_istore_n (i := 2) dX1_marksBy_27 rfl (by decide) rfl ?_
        refine ev_incN dX1_marksBy_28 (by rfl) (by decide) rfl ?_
        refine ev_goto 11 dX1_marksBy_31 (by decide) ?_
        exact ih (b + 1) (by omega)
    refine ev_iload_n (i := 1) dX1_marksBy_0 rfl rfl ?_
    refine ev_iconst (v := nI 3) dX1_marksBy_1 rfl ?_
    refine ev_icmp_eqN 7 dX1_marksBy_2 (by decide) (by omega) (by omega) (fun b2 => ?_) (fun b2 => by exfalso; omega)
    refine ev_iconst (v := nI 0) dX1_marksBy_7 rfl ?_
    refine ev_istore_n (i := 2) dX1_marksBy_8 rfl (by decide) rfl ?_
    refine ev_iconst (v := nI 0) dX1_marksBy_9 rfl ?_
    refine ev_istore_n (i := 3) dX1_marksBy_10 rfl (by decide) rfl ?_
    exact lp 4 0 rfl
  · rw [if_neg h3] at hp
    refine ev_iload_n (i := 1) dX1_marksBy_0 rfl rfl ?_
    refine ev_iconst (v := nI 3) dX1_marksBy_1 rfl ?_
    refine ev_icmp_eqN 7 dX1_marksBy_2 (by decide) (by omega) (by omega) (fun b2 => by exfalso; omega) (fun b2 => ?_)
    refine ev_iload_n (i := 0) dX1_marksBy_5 rfl rfl ?_
    refine ev_reti dX1_marksBy_6 rfl rfl ?_
    exact hp
theorem arr_cg {M : mM} {i n m : Nat} {g g1 : Nat → Nat} (h : arr M i n m g) (e : ∀ j, j < m → g j = g1 j) : arr M i n m g1 := by
  obtain ⟨f, h1, h2⟩ := h
  exact ⟨f, h1, fun j hj => by rw [h2 j hj, e j hj]⟩
theorem arr_sn {M1 : mM} {i n c v : Nat} {g : Nat → Nat} {f : Nat → Int32} (h1 : M1 i = .inl (0, n, .inl (upd f c (nI v)))) (h2 : ∀ j, j < c → f j = nI (g j)) (e : g c = v) : arr M1 i n (c + 1) g := by
  refine ⟨_, h1, fun j hj => ?_⟩
  unfold upd
  by_cases q : j = c
  · rw [if_pos q, q, e]
  · rw [if_neg q]; exact h2 j (by omega)
theorem c_lAdd {d c pl m st h : Nat} {T : (Nat → Nat) × (Nat → Nat) × (Nat → Nat) × (Nat → Nat)} (hL : kLt M (c, T)) (hc : c < 6) (h1 : pl ≤ 8) (h2 : m < 16) (h3 : 1 ≤ st) (h3b : st < 2 ^ 30) (h4 : h < 2 ^ 31) (e1 : T.1 c = pl) (e2 : T.2.1 c = h) (e3 : T.2.2.1 c = frN st h) (e4 : T.2.2.2 c = mkN m h * 2 ^ pl) (hp : ∀ M1, ag M M1 3 8 → kLt M1 (c + 1, T) → P none M1) : Ev 88 (d + 1) mX1_add none 0 [.ref 3, .int (nI pl), .int (nI m), .int (nI st), .int (nI h)] [] M P := by
  obtain ⟨x0, ⟨fa, xa, ya⟩, ⟨fb, xb, yb⟩, ⟨fc, xc, yc⟩, ⟨fd, xd, yd⟩⟩ := hL
  have x0 : M 3 = .inr (1, [.ref 4, .ref 5, .ref 6, .ref 7, .int (nI c)]) := x0
  refine ev_aload_n (i := 0) dX1_add_0 rfl rfl ?_
  refine ev_getfield dX1_add_1 fX1_24 (by first | omega | decide) (by first | assumption | (simp (disch := omega) only [mu_s, mu_n]; first | assumption | rfl)) (by rfl) ?_
  refine ev_if_ltN 79 dX1_add_4 (by decide) (by omega) (fun b4 => by exfalso; omega) (fun b4 => ?_)
  refine ev_aload_n (i := 0) dX1_add_7 rfl rfl ?_
  refine ev_getfield dX1_add_8 fX1_24 (by first | omega | decide) (by first | assumption | (simp (disch := omega) only [mu_s, mu_n]; first | assumption | rfl)) (by rfl) ?_
  refine ev_bipush (v := nI 6) dX1_add_11 rfl ?_
  refine ev_icmp_geN 79 dX1_add_13 (by decide) (by omega) (by omega) (fun b13 => by exfalso; omega) (fun b13 => ?_)
  refine ev_aload_n (i := 0) dX1_add_16 rfl rfl ?_
  refine ev_getfield dX1_add_17 fX1_9 (by first | omega | decide) (by first | assumption | (simp (disch := omega) only [mu_s, mu_n]; first | assumption | rfl)) (by rfl) ?_
  refine ev_aload_n (i := 0) dX1_add_20 rfl rfl ?_
  refine ev_getfield dX1_add_21 fX1_24 (by first | omega | decide) (by first | assumption | (simp (disch := omega) only [mu_s, mu_n]; first | assumption | rfl)) (by rfl) ?_
  refine ev_iload_n (i := 1) dX1_add_24 rfl rfl ?_
  refine ev_iastoreN dX1_add_25 (by first | omega | decide) (by first | assumption | (simp (disch := omega) only [mu_s, mu_n]; first | assumption | rfl)) (by omega) (by decide) ?_
  refine ev_aload_n (i := 0) dX1_add_26 rfl rfl ?_
  refine ev_getfield dX1_add_27 fX1_15 (by first | omega | decide) (by first | assumption | (simp (disch := omega) only [mu_s, mu_n]; first | assumption | rfl)) (by rfl) ?_
  refine ev_aload_n (i := 0) dX1_add_30 rfl rfl ?_
  refine ev_getfield dX1_add_31 fX1_24 (by first | omega | decide) (by first | assumption | (simp (disch := omega) only [mu_s, mu_n]; first | assumption | rfl)) (by rfl) ?_
  refine ev_iload (i := 4) dX1_add_34 rfl ?_
  refine ev_iastoreN dX1_add_36 (by first | omega | decide) (by first | assumption | (simp (disch := omega) only [mu_s, mu_n]; first | assumption | rfl)) (by omega) (by decide) ?_
  refine ev_aload_n (i := 0) dX1_add_37 rfl rfl ?_
  refine ev_getfield dX1_add_38 fX1_18 (by first | omega | decide) (by first | assumption | (simp (disch := omega) only [mu_s, mu_n]; first | assumption | rfl)) (by rfl) ?_
  refine ev_aload_n (i := 0) dX1_add_41 rfl rfl ?_
  refine ev_getfield dX1_add_42 fX1_24 (by first | omega | decide) (by first | assumption | (simp (disch := omega) only [mu_s, mu_n]; first | assumption | rfl)) (by rfl) ?_
  refine ev_iload_n (i := 3) dX1_add_45 rfl rfl ?_
  refine ev_iload (i := 4) dX1_add_46 rfl ?_
  refine ev_S2 (μ1 := mX1_forceBy) dX1_add_48 sX1_28 okX1_forceBy (Nat.le_of_ble_eq_true rfl) (Nat.le_of_ble_eq_true rfl) ?_
  refine c_forceBy (by omega) h3 h4 ?_
  refine ev_iastoreN dX1_add_51 (by first | omega | decide) (by first | assumption | (simp (disch := omega) only [mu_s, mu_n]; first | assumption | rfl)) (by omega) (by decide) ?_
  refine ev_aload_n (i := 0) dX1_add_52 rfl rfl ?_
  refine ev_getfield dX1_add_53 fX1_21 (by first | omega | decide) (by first | assumption | (simp (disch := omega) only [mu_s, mu_n]; first | assumption | rfl)) (by rfl) ?_
  refine ev_aload_n (i := 0) dX1_add_56 rfl rfl ?_
  refine ev_getfield dX1_add_57 fX1_24 (by first | omega | decide) (by first | assumption | (simp (disch := omega) only [mu_s, mu_n]; first | assumption | rfl)) (by rfl) ?_
  refine ev_iload_n (i := 2) dX1_add_60 rfl rfl ?_
  refine ev_iload (i := 4) dX1_add_61 rfl ?_
  refine ev_S2 (μ1 := mX1_marksBy) dX1_add_63 sX1_32 okX1_marksBy (Nat.le_of_ble_eq_true rfl) (Nat.le_of_ble_eq_true rfl) ?_
  refine c_marksBy (by omega) h4 ?_
  refine ev_iload_n (i := 1) dX1_add_66 rfl rfl ?_
  refine ev_ishlN dX1_add_67 (by omega) ?_
  refine ev_iastoreN dX1_add_68 (by first | omega | decide) (by first | assumption | (simp (disch := omega) only [mu_s, mu_n]; first | assumption | rfl)) (by omega) (by decide) ?_
  refine ev_aload_n (i := 0) dX1_add_69 rfl rfl ?_
  refine ev_dup dX1_add_70 rfl ?_
  refine ev_getfield dX1_add_71 fX1_24 (by first | omega | decide) (by first | assumption | (simp (disch := omega) only [mu_s, mu_n]; first | assumption | rfl)) (by rfl) ?_
  refine ev_iconst (v := nI 1) dX1_add_74 rfl ?_
  refine ev_iaddN dX1_add_75 ?_
  refine ev_putI dX1_add_76 fwX1_24 (by first | omega | decide) (by first | assumption | (simp (disch := omega) only [mu_s, mu_n]; first | assumption | rfl)) (Nat.le_of_ble_eq_true rfl) ?_
  refine ev_ret0 dX1_add_79 rfl ?_
  refine hp _ (ag_mu (ag_mu (ag_mu (ag_mu (ag_mu (ag_rf M _ _) (by omega) (by omega)) (by omega) (by omega)) (by omega) (by omega)) (by omega) (by omega)) (by omega) (by omega)) ⟨mu_s _ _ _, ?_, ?_, ?_, ?_⟩
  · exact arr_sn (by simp (disch := omega) only [mu_s, mu_n]) ya e1
  · exact arr_sn (by simp (disch := omega) only [mu_s, mu_n]) yb e2
  · exact arr_sn (by simp (disch := omega) only [mu_s, mu_n]) yc e3
  · exact arr_sn (by simp (disch := omega) only [mu_s, mu_n]) yd e4
/-- a text without a fault -/
theorem fg_t {b lo hi : Nat} (h : fgB b lo hi = true) : lo + 48 ≤ b ∧ b ≤ hi + 48 := of_decide_eq_true h
theorem flt_no {t : tx} (h : fltN t = none) : 0 < t.1 ∧ (t.1 - 1) % 5 = 0 ∧ ∀ i, i < t.1 → rtB t i = true := by
  unfold fltN at h
  cases q : lf (fun i => !rtB t i) t.1 0 with
  | some i => rw [q] at h; cases h
  | none =>
    rw [q] at h
    have h : (if 0 < t.1 ∧ (t.1 - 1) % 5 = 0 then none else some t.1) = (none : Option Nat) := h
    split at h
    · next hh =>
      exact ⟨hh.1, hh.2, fun i hi => by have := lf_none q i (by omega) (by omega); simpa using this⟩
    · cases h
theorem flt_n {t : tx} (h : fltN t = none) : t.1 ≤ 31 := by
  obtain ⟨h1, h2, h3⟩ := flt_no h
  rcases Nat.lt_or_ge 31 t.1 with q | q
  · have := h3 31 q
    unfold rtB at this
    rw [if_neg (by decide), if_pos (by decide)] at this
    cases this
  · exact q
theorem flt_l {t : tx} (h : fltN t = none) {l : Nat} (hl : l < (t.1 - 1) / 5) : t.2 (5 * l + 1) = 76 ∧ (48 ≤ t.2 (5 * l + 2) ∧ t.2 (5 * l + 2) ≤ 56) ∧ (49 ≤ t.2 (5 * l + 3) ∧ t.2 (5 * l + 3) ≤ 57) ∧ (49 ≤ t.2 (5 * l + 4) ∧ t.2 (5 * l + 4) ≤ 51) ∧ (48 ≤ t.2 (5 * l + 5) ∧ t.2 (5 * l + 5) ≤ 51) := by
  obtain ⟨h1, h2, h3⟩ := flt_no h
  have h4 := flt_n h
  have a0 := h3 (5 * l + 0 + 1) (by omega)
  unfold rtB at a0
  rw [if_neg (by omega), if_neg (by omega), show (5 * l + 0 + 1 - 1) % 5 = 0 by omega] at a0
  have a1 := h3 (5 * l + 1 + 1) (by omega)
  unfold rtB at a1
  rw [if_neg (by omega), if_neg (by omega), show (5 * l + 1 + 1 - 1) % 5 = 1 by omega] at a1
  have a2 := h3 (5 * l + 2 + 1) (by omega)
  unfold rtB at a2
  rw [if_neg (by omega), if_neg (by omega), show (5 * l + 2 + 1 - 1) % 5 = 2 by omega] at a2
  have a3 := h3 (5 * l + 3 + 1) (by omega)
  unfold rtB at a3
  rw [if_neg (by omega), if_neg (by omega), show (5 * l + 3 + 1 - 1) % 5 = 3 by omega] at a3
  have a4 := h3 (5 * l + 4 + 1) (by omega)
  unfold rtB at a4
  rw [if_neg (by omega), if_neg (by omega), show (5 * l + 4 + 1 - 1) % 5 = 4 by omega] at a4
  exact ⟨of_decide_eq_true a0, fg_t a1, fg_t a2, fg_t a3, fg_t a4⟩
theorem tn_all : ∀ m, m < 16 → 0 < m → 0 < tnN m 4 ∧ tnN m 4 < 16 := by decide
theorem ltOf_ok {t : tx} (h : fltN t = none) : ltOk (ltOf t) := by
  have h4 := flt_n h
  refine ⟨by show (t.1 - 1) / 5 ≤ 6; omega, fun l hl => ?_⟩
  obtain ⟨-, a1, a2, a3, a4⟩ := flt_l h hl
  refine ⟨by show t.2 (5 * l + 2) - 48 ≤ 8; omega, by show t.2 (5 * l + 5) - 48 ≤ 3; omega, ?_, mkN (t.2 (5 * l + 3) - 48) (t.2 (5 * l + 5) - 48), ?_, ?_, rfl⟩
  · show frN (t.2 (5 * l + 4) - 48) (t.2 (5 * l + 5) - 48) ≤ 4
    unfold frN
    split
    · omega
    · split <;> omega
  · unfold mkN
    split
    · exact (tn_all _ (by omega) (by omega)).1
    · omega
  · unfold mkN
    split
    · exact (tn_all _ (by omega) (by omega)).2
    · omega
theorem n_inc5 (a : Nat) : nI a + Int32.ofInt 5 = nI (a + 5) := nI_add a 5
theorem c_readLetters {d : Nat} {t : tx} {l0 : lt} {sd : Int64} (hR : kRt M sd) (hT : kTx M t) (ho : txOk t) (hL : kLt M l0) (hf : fltN t = none) (hp : ∀ M1, ag M M1 3 8 → kLt M1 (ltOf t) → P none M1) : Ev 88 (d + 3) mX7_readLetters none 0 [.ref 0, .null] [] M P := by
  have x2 := hL.1
  have x1 := hT.1
  unfold kRt at hR
  have h31 := flt_n hf
  obtain ⟨g1, g2, g3⟩ := flt_no hf
  have lp : ∀ (j c : Nat) (M1 : mM), c + j = (t.1 - 1) / 5 → ag M M1 3 8 → kLt M1 (c, (ltOf t).2) → Ev 88 (d + 3) mX7_readLetters none 10 [.ref 0, .int (nI (5 * c + 1))] [] M1 P := by
    intro j
    induction j with
    | zero =>
      intro c M1 hc ha hl
      obtain rfl : c = (t.1 - 1) / 5 := by omega
      have y0 := (ha 0 (by omega)).trans hR
      have y1 := (ha 1 (by omega)).trans x1
      refine ev_iload_n (i := 1) dX7_readLetters_10 rfl rfl ?_
      refine ev_aload_n (i := 0) dX7_readLetters_11 rfl rfl ?_
      refine ev_getfield dX7_readLetters_12 fX7_10 (by first | omega | decide) (by first | assumption | (simp (disch := omega) only [mu_s, mu_n]; first | assumption | rfl)) (by rfl) ?_
      refine ev_getfield dX7_readLetters_15 fX7_69 (by first | omega | decide) (by first | assumption | (simp (disch := omega) only [mu_s, mu_n]; first | assumption | rfl)) (by rfl) ?_
      refine ev_icmp_geN 74 dX7_readLetters_18 (by decide) (by omega) (by omega) (fun b18 => ?_) (fun b18 => by exfalso; omega)
      refine ev_ret0 dX7_readLetters_74 rfl ?_
      exact hp M1 ha hl
    | succ j ih =>
      intro c M1 hc ha hl
      have y0 := (ha 0 (by omega)).trans hR
      have y1 := (ha 1 (by omega)).trans x1
      have y2 : M1 3 = .inr (1, [.ref 4, .ref 5, .ref 6, .ref 7, .int (nI c)]) := hl.1
      have hT1 := kTx_ag hT ha (by omega)
      obtain ⟨-, a1, a2, a3, a4⟩ := flt_l hf (show c < (t.1 - 1) / 5 by omega)
      refine ev_iload_n (i := 1) dX7_readLetters_10 rfl rfl ?_
      refine ev_aload_n (i := 0) dX7_readLetters_11 rfl rfl ?_
      refine ev_getfield dX7_readLetters_12 fX7_10 (by first | omega | decide) (by first | assumption | (simp (disch := omega) only [mu_s, mu_n]; first | assumption | rfl)) (by rfl) ?_
      refine ev_getfield dX7_readLetters_15 fX7_69 (by first | omega | decide) (by first | assumption | (simp (disch := omega) only [mu_s, mu_n]; first | assumption | rfl)) (by rfl) ?_
      refine ev_icmp_geN 74 dX7_readLetters_18 (by decide) (by omega) (by omega) (fun b18 => by exfalso; omega) (fun b18 => ?_)
      refine ev_aload_n (i := 0) dX7_readLetters_21 rfl rfl ?_
      refine ev_getfield dX7_readLetters_22 fX7_19 (by first | omega | decide) (by first | assumption | (simp (disch := omega) only [mu_s, mu_n]; first | assumption | rfl)) (by rfl) ?_
      refine ev_aload_n (i := 0) dX7_readLetters_25 rfl rfl ?_
      refine ev_getfield dX7_readLetters_26 fX7_10 (by first | omega | decide) (by first | assumption | (simp (disch := omega) only [mu_s, mu_n]; first | assumption | rfl)) (by rfl) ?_
      refine ev_iload_n (i := 1) dX7_readLetters_29 rfl rfl ?_
      refine ev_iconst (v := nI 1) dX7_readLetters_30 rfl ?_
      refine ev_iaddN dX7_readLetters_31 ?_
      refine ev_V1 (μ1 := mX5_figureAt) dX7_readLetters_32 sX7_240 okX5_figureAt (by first | omega | decide) (by first | assumption | (simp (disch := omega) only [mu_s, mu_n]; first | assumption | rfl)) (Nat.le_of_ble_eq_true rfl) (Nat.le_of_ble_eq_true rfl) ?_
      refine c_figureAt (i := 5 * c + 2) hT1 ho (by omega) ?_
      rw [pk_sub (by omega)]
      refine ev_aload_n (i := 0) dX7_readLetters_35 rfl rfl ?_
      refine ev_getfield dX7_readLetters_36 fX7_10 (by first | omega | decide) (by first | assumption | (simp (disch := omega) only [mu_s, mu_n]; first | assumption | rfl)) (by rfl) ?_
      refine ev_iload_n (i := 1) dX7_readLetters_39 rfl rfl ?_
      refine ev_iconst (v := nI 2) dX7_readLetters_40 rfl ?_
      refine ev_iaddN dX7_readLetters_41 ?_
      refine ev_V1 (μ1 := mX5_figureAt) dX7_readLetters_42 sX7_240 okX5_figureAt (by first | omega | decide) (by first | assumption | (simp (disch := omega) only [mu_s, mu_n]; first | assumption | rfl)) (Nat.le_of_ble_eq_true rfl) (Nat.le_of_ble_eq_true rfl) ?_
      refine c_figureAt (i := 5 * c + 3) hT1 ho (by omega) ?_
      rw [pk_sub (by omega)]
      refine ev_aload_n (i := 0) dX7_readLetters_45 rfl rfl ?_
      refine ev_getfield dX7_readLetters_46 fX7_10 (by first | omega | decide) (by first | assumption | (simp (disch := omega) only [mu_s, mu_n]; first | assumption | rfl)) (by rfl) ?_
      refine ev_iload_n (i := 1) dX7_readLetters_49 rfl rfl ?_
      refine ev_iconst (v := nI 3) dX7_readLetters_50 rfl ?_
      refine ev_iaddN dX7_readLetters_51 ?_
      refine ev_V1 (μ1 := mX5_figureAt) dX7_readLetters_52 sX7_240 okX5_figureAt (by first | omega | decide) (by first | assumption | (simp (disch := omega) only [mu_s, mu_n]; first | assumption | rfl)) (Nat.le_of_ble_eq_true rfl) (Nat.le_of_ble_eq_true rfl) ?_
      refine c_figureAt (i := 5 * c + 4) hT1 ho (by omega) ?_
      rw [pk_sub (by omega)]
      refine ev_aload_n (i := 0) dX7_readLetters_55 rfl rfl ?_
      refine ev_getfield dX7_readLetters_56 fX7_10 (by first | omega | decide) (by first | assumption | (simp (disch := omega) only [mu_s, mu_n]; first | assumption | rfl)) (by rfl) ?_
      refine ev_iload_n (i := 1) dX7_readLetters_59 rfl rfl ?_
      refine ev_iconst (v := nI 4) dX7_readLetters_60 rfl ?_
      refine ev_iaddN dX7_readLetters_61 ?_
      refine ev_V1 (μ1 := mX5_figureAt) dX7_readLetters_62 sX7_240 okX5_figureAt (by first | omega | decide) (by first | assumption | (simp (disch := omega) only [mu_s, mu_n]; first | assumption | rfl)) (Nat.le_of_ble_eq_true rfl) (Nat.le_of_ble_eq_true rfl) ?_
      refine c_figureAt (i := 5 * c + 5) hT1 ho (by omega) ?_
      rw [pk_sub (by omega)]
      refine ev_V4 (μ1 := mX1_add) dX7_readLetters_65 sX7_243 okX1_add (by first | omega | decide) (by first | assumption | (simp (disch := omega) only [mu_s, mu_n]; first | assumption | rfl)) (Nat.le_of_ble_eq_true rfl) (Nat.le_of_ble_eq_true rfl) ?_
      refine c_lAdd (T := (ltOf t).2) hl (by omega) (by omega) (by omega) (by omega) (by omega) (by omega) rfl rfl rfl rfl (fun M2 ha2 hl2 => ?_)
      refine ev_iinc dX7_readLetters_68 (by rfl) (n_inc5 _) (by decide) rfl ?_
      refine ev_goto 10 dX7_readLetters_71 (by decide) ?_
      exact ih (c + 1) M2 (by omega) (ag_tr ha ha2) hl2
  refine ev_aload_n (i := 0) dX7_readLetters_0 rfl rfl ?_
  refine ev_getfield dX7_readLetters_1 fX7_19 (by first | omega | decide) (by first | assumption | (simp (disch := omega) only [mu_s, mu_n]; first | assumption | rfl)) (by rfl) ?_
  refine ev_iconst (v := nI 0) dX7_readLetters_4 rfl ?_
  refine ev_putI dX7_readLetters_5 fwX7_90 (by first | omega | decide) (by first | assumption | (simp (disch := omega) only [mu_s, mu_n]; first | assumption | rfl)) (Nat.le_of_ble_eq_true rfl) ?_
  refine ev_iconst (v := nI 1) dX7_readLetters_8 rfl ?_
  refine ev_istore_n (i := 1) dX7_readLetters_9 rfl (by decide) rfl ?_
  refine lp ((t.1 - 1) / 5) 0 _ (by omega) (ag_mu (ag_rf M _ _) (by omega) (by omega)) ⟨mu_s _ _ _, ?_, ?_, ?_, ?_⟩
  · obtain ⟨f, q1, q2⟩ := hL.2.1
    exact ⟨f, (mu_n (by omega)).trans q1, fun j hj => absurd hj (Nat.not_lt_zero j)⟩
  · obtain ⟨f, q1, q2⟩ := hL.2.2.1
    exact ⟨f, (mu_n (by omega)).trans q1, fun j hj => absurd hj (Nat.not_lt_zero j)⟩
  · obtain ⟨f, q1, q2⟩ := hL.2.2.2.1
    exact ⟨f, (mu_n (by omega)).trans q1, fun j hj => absurd hj (Nat.not_lt_zero j)⟩
  · obtain ⟨f, q1, q2⟩ := hL.2.2.2.2
    exact ⟨f, (mu_n (by omega)).trans q1, fun j hj => absurd hj (Nat.not_lt_zero j)⟩
theorem C_office (h : kC M s) (ho : cOk s) (hp : ∀ M1, ag M M1 0 72 → kC M1 (n_office s) → P (some (.int (a_office s))) M1) : Ev 88 7 mX7_office none 0 [.ref 0] [] M P := by
  obtain ⟨t, l, p, a, sl, v, sd⟩ := s
  obtain ⟨h0, h1, h2, h3, h11, h4, h5, h6, h7⟩ : kRt M sd ∧ kTx M t ∧ kLt M l ∧ kP M 8 p ∧ (∃ p, kP M 11 p) ∧ kAc M a ∧ kOv M v ∧ kSl M sl ∧ ∃ o, kTm M o := id h
  obtain ⟨o1, o2, o3, o4, o5, o6, o7⟩ : txOk t ∧ ltOk l ∧ pgOk p ∧ (∀ q ∈ a, pgOk q) ∧ a.length ≤ 14 ∧ (∀ i q, sl i = some q → pgOk q) ∧ ovOk v := ho
  have x2 := h2.1
  have hl6 : l.1 ≤ 6 := o2.1
  obtain ⟨f3, g3, x3, hf3, hg3⟩ := id h3
  have x3a := x3.1
  have h64 : 2 ^ l.1 ≤ 2 ^ 6 := pw_le hl6
  have h0p : 0 < 2 ^ l.1 := Nat.two_pow_pos _
  unfold kRt at h0
  have x1 := h1.1
  obtain ⟨fi, g4, x4, -⟩ := id h4
  obtain ⟨fl, g6, x6, -⟩ := id h6
  cases hf : fltN t with
  | none =>
    have e1 : a_office (t, l, p, a, sl, v, sd) = nI ((t.1 - 1) / 5) := by unfold a_office; rw [if_pos hf]
    have e2 : n_office (t, l, p, a, sl, v, sd) = (t, ltOf t, pgNew 0, [], (fun _ => none), v, sd) := by unfold n_office; rw [if_pos hf]
    rw [e1, e2] at hp
    refine ev_aload_n (i := 0) dX7_office_0 rfl rfl ?_
    refine ev_getfield dX7_office_1 fX7_10 (by first | omega | decide) (by first | assumption | (simp (disch := omega) only [mu_s, mu_n]; first | assumption | rfl)) (by rfl) ?_
    refine ev_V0 (μ1 := mX5_firstFault) dX7_office_4 sX7_73 okX5_firstFault (by first | omega | decide) (by first | assumption | (simp (disch := omega) only [mu_s, mu_n]; first | assumption | rfl)) (Nat.le_of_ble_eq_true rfl) (Nat.le_of_ble_eq_true rfl) ?_
    refine c_firstFault h1 o1 ?_
    rw [hf]
    refine ev_bipush (v := (-9)) dX7_office_7 rfl ?_
    refine ev_icmp_eq 15 dX7_office_9 (by decide) (fun b9 => ?_) (fun b9 => absurd rfl b9)
    refine ev_aload_n (i := 0) dX7_office_15 rfl rfl ?_
    refine ev_V0 (μ1 := mX7_readLetters) dX7_office_16 sX7_77 okX7_readLetters (by first | omega | decide) (by first | assumption | (simp (disch := omega) only [mu_s, mu_n]; first | assumption | rfl)) (Nat.le_of_ble_eq_true rfl) (Nat.le_of_ble_eq_true rfl) ?_
    refine c_readLetters h0 h1 o1 h2 hf (fun M1 ha hl => ?_)
    have hC1 := kC_lt h ha hl
    have y0 : M1 0 = _ := (ha 0 (by omega)).trans h0
    have y3 := (ha 8 (by omega)).trans x3a
    refine ev_aload_n (i := 0) dX7_office_19 rfl rfl ?_
    refine ev_getfield dX7_office_20 fX7_26 (by first | omega | decide) (by first | assumption | (simp (disch := omega) only [mu_s, mu_n]; first | assumption | rfl)) (by rfl) ?_
    refine ev_V0 (μ1 := mX3_renew) dX7_office_23 sX7_80 okX3_renew (by first | omega | decide) (by first | assumption | (simp (disch := omega) only [mu_s, mu_n]; first | assumption | rfl)) (Nat.le_of_ble_eq_true rfl) (Nat.le_of_ble_eq_true rfl) ?_
    refine q_renew (by omega) (kP_ag h3 ha (by omega)) (fun M2 ha2 hk2 => ?_)
    have hC2 := kC_pg hC1 ha2 hk2
    have z0 := (ha2 0 (by omega)).trans y0
    obtain ⟨f5, g5, z5, z6, z7⟩ := id hk2
    have z5a := z5.1
    refine ev_aload_n (i := 0) dX7_office_26 rfl rfl ?_
    refine ev_getfield dX7_office_27 fX7_26 (by first | omega | decide) (by first | assumption | (simp (disch := omega) only [mu_s, mu_n]; first | assumption | rfl)) (by rfl) ?_
    refine ev_iconst (v := nI 0) dX7_office_30 rfl ?_
    refine ev_putI dX7_office_31 fwX7_83 (by first | omega | decide) (by first | assumption | (simp (disch := omega) only [mu_s, mu_n]; first | assumption | rfl)) (Nat.le_of_ble_eq_true rfl) ?_
    have eA : ag M2 (mu M2 8 (.inr (3, [.ref (8 + 1), .ref (8 + 2), .int (nI 0)]))) 8 11 := ag_mu (ag_rf M2 _ _) (by omega) (by omega)
    have hC3 := kC_pg hC2 eA (p1 := pgNew 0) ⟨f5, g5, kS_0 z5 _, z6, z7⟩
    have w0 := hC3.1
    obtain ⟨fi2, g8, w4, -⟩ := hC3.2.2.2.2.2.1
    unfold kRt at w0
    refine ev_mem (M1 := mu M2 8 (.inr (3, [.ref (8 + 1), .ref (8 + 2), .int (nI 0)]))) rfl ?_
    refine ev_aload_n (i := 0) dX7_office_34 rfl rfl ?_
    refine ev_getfield dX7_office_35 fX7_36 (by first | omega | decide) (by first | assumption | (simp (disch := omega) only [mu_s, mu_n]; first | assumption | rfl)) (by rfl) ?_
    refine ev_V0 (μ1 := mX0_forget) dX7_office_38 sX7_86 okX0_forget (by first | omega | decide) (by first | assumption | (simp (disch := omega) only [mu_s, mu_n]; first | assumption | rfl)) (Nat.le_of_ble_eq_true rfl) (Nat.le_of_ble_eq_true rfl) ?_
    refine q_aForget hC3.2.2.2.2.2.1 (fun M4 ha4 hk4 => ?_)
    have hC4 := kC_ac hC3 (ag_wd ha4) hk4
    have v0 := hC4.1
    obtain ⟨fl2, g9, v6, -⟩ := hC4.2.2.2.2.2.2.2.1
    unfold kRt at v0
    refine ev_aload_n (i := 0) dX7_office_41 rfl rfl ?_
    refine ev_getfield dX7_office_42 fX7_50 (by first | omega | decide) (by first | assumption | (simp (disch := omega) only [mu_s, mu_n]; first | assumption | rfl)) (by rfl) ?_
    refine ev_V0 (μ1 := mX4_forget) dX7_office_45 sX7_89 okX4_forget (by first | omega | decide) (by first | assumption | (simp (disch := omega) only [mu_s, mu_n]; first | assumption | rfl)) (Nat.le_of_ble_eq_true rfl) (Nat.le_of_ble_eq_true rfl) ?_
    refine q_sForget hC4.2.2.2.2.2.2.2.1 (fun M5 ha5 hk5 => ?_)
    have hC5 := kC_sl hC4 (ag_wd ha5) hk5
    have u0 := hC5.1
    have u2 : M5 3 = .inr (1, [.ref 4, .ref 5, .ref 6, .ref 7, .int (nI ((t.1 - 1) / 5))]) := hC5.2.2.1.1
    unfold kRt at u0
    refine ev_aload_n (i := 0) dX7_office_48 rfl rfl ?_
    refine ev_getfield dX7_office_49 fX7_19 (by first | omega | decide) (by first | assumption | (simp (disch := omega) only [mu_s, mu_n]; first | assumption | rfl)) (by rfl) ?_
    refine ev_getfield dX7_office_52 fX7_90 (by first | omega | decide) (by first | assumption | (simp (disch := omega) only [mu_s, mu_n]; first | assumption | rfl)) (by rfl) ?_
    refine ev_reti dX7_office_55 rfl rfl ?_
    exact hp M5 (ag_tr (ag_tr (ag_tr (ag_tr ha ha2 : ag M M2 0 72) eA : ag M _ 0 72) ha4 : ag M M4 0 72) ha5) hC5
  | some i =>
    have hfn : ¬ fltN t = none := by rw [hf]; intro z; cases z
    have e1 : a_office (t, l, p, a, sl, v, sd) = (-3) := by unfold a_office; rw [if_neg hfn]
    have e2 : n_office (t, l, p, a, sl, v, sd) = (t, l, p, a, sl, v, sd) := by unfold n_office; rw [if_neg hfn]
    rw [e1, e2] at hp
    have hi : i ≤ 40 := by
      have h40 := o1.1
      unfold fltN at hf
      cases q : lf (fun i => !rtB t i) t.1 0 with
      | some j =>
        have := (lf_some q).2.1
        rw [q] at hf
        cases hf
        omega
      | none =>
        rw [q] at hf
        have hf : (if 0 < t.1 ∧ (t.1 - 1) % 5 = 0 then none else some t.1) = some i := hf
        split at hf
        · cases hf
        · cases hf; omega
    have hi9 : ¬ oI (some i) = (-9) := n_9 (by omega)
    refine ev_aload_n (i := 0) dX7_office_0 rfl rfl ?_
    refine ev_getfield dX7_office_1 fX7_10 (by first | omega | decide) (by first | assumption | (simp (disch := omega) only [mu_s, mu_n]; first | assumption | rfl)) (by rfl) ?_
    refine ev_V0 (μ1 := mX5_firstFault) dX7_office_4 sX7_73 okX5_firstFault (by first | omega | decide) (by first | assumption | (simp (disch := omega) only [mu_s, mu_n]; first | assumption | rfl)) (Nat.le_of_ble_eq_true rfl) (Nat.le_of_ble_eq_true rfl) ?_
    refine c_firstFault h1 o1 ?_
    rw [hf]
    refine ev_bipush (v := (-9)) dX7_office_7 rfl ?_
    refine ev_icmp_eq 15 dX7_office_9 (by decide) (fun b9 => absurd b9 hi9) (fun b9 => ?_)
    refine ev_bipush (v := (-3)) dX7_office_12 rfl ?_
    refine ev_reti dX7_office_14 rfl rfl ?_
    exact hp M (ag_rf M _ _) h
end CLY
