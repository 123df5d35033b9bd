section MDS
variable {M : mM} {P : Option Value → mM → Prop} {s : cs}
theorem cnt_0 {n : Nat} (hn : n < 4096) (h : cnt n = 0) : n = 0 := by
  have key : ∀ m, sN (fun k => n / 2 ^ k % 2) m = 0 → ∀ k, k < m → n.testBit k = false := by
    intro m
    induction m with
    | zero => intro _ k hk; exact absurd hk (Nat.not_lt_zero k)
    | succ m ih =>
      intro hs k hk
      have hs : sN (fun k => n / 2 ^ k % 2) m + n / 2 ^ m % 2 = 0 := hs
      by_cases z : k = m
      · subst z
        rw [Bool.eq_false_iff]
        intro y
        rw [← tb_d] at y
        omega
      · exact ih (by omega) k (by omega)
  apply Nat.eq_of_testBit_eq
  intro i
  rw [Nat.zero_testBit]
  rcases Nat.lt_or_ge i 12 with z | z
  · exact key 12 h i z
  · exact Nat.testBit_lt_two_pow (Nat.lt_of_lt_of_le hn (show 4096 ≤ 2 ^ i from pw_le (a := 12) z))
theorem cnt_z : cnt 0 = 0 := by decide
theorem R_press {x : Int32} (h : kM M s) (ho : cOk s) (hp : ∀ M1, ag M M1 72 88 → kM M1 (n_press s x) → P (some (.int (a_press s x))) M1) : Ev 88 7 mX8_press none 0 [.ref 72, .int x] [] M P := by
  refine m_thr dX8_press_0 dX8_press_1 dX8_press_2 fwX8_60 h (fun M0 a0 h => ?_)
  replace hp : ∀ M1, ag M0 M1 72 88 → kM M1 (n_press s x) → P (some (.int (a_press s x))) M1 := fun M1 ha hk => hp M1 (ag_tr (ag_wd a0 : ag M M0 72 88) ha) hk
  clear a0
  obtain ⟨t, l, p, a, sl, v, sd⟩ := s
  obtain ⟨⟨e, x0⟩, hR⟩ := id h
  obtain ⟨h1, h2, h3, h11, h4, h5, h6, h7⟩ : arr M0 73 40 t.1 t.2 ∧ kML M0 l ∧ kG M0 79 p ∧ (∃ q, kG M0 80 q) ∧ kBk M0 a ∧ kKp M0 sl ∧ kMV M0 v ∧ kX M0 := id hR
  obtain ⟨o1, o2, o3, o4, o5, o6, o7⟩ : txOk t ∧ ltOk l ∧ pgOk p ∧ (∀ q ∈ a, pgOk q) ∧ a.length ≤ 14 ∧ (∀ i q, sl i = some q → pgOk q) ∧ ovOk v := ho
  have hO : kO M0 e t.1 l.1 a.length v.1 sd := x0
  have hl6 := o2.1
  have hv6 := o7.1
  unfold kO at x0
  cases hx : inR x l.1 with
  | true =>
    obtain ⟨j, hj, rfl⟩ := inR_of hx (by omega)
    have e1 : a_press (t, l, p, a, sl, v, sd) (nI j) = nI (cnt (shN (pgPress (l.2.2.2.2 j) (l.2.2.2.1 j) j p).1 0)) := by unfold a_press; rw [if_pos hx, n_cl (by omega)]; rfl
    have e2 : n_press (t, l, p, a, sl, v, sd) (nI j) = (t, l, pgPress (l.2.2.2.2 j) (l.2.2.2.1 j) j p, actsAdd a p, sl, v, sd) := by unfold n_press; rw [if_pos hx, n_cl (by omega)]; rfl
    rw [e1, e2] at hp
    refine ev_aload_n (i := 0) dX8_press_5 rfl rfl ?_
    refine ev_iload_n (i := 1) dX8_press_6 rfl rfl ?_
    refine ev_V1 (μ1 := mX8_noLetter) dX8_press_7 sX8_113 okX8_noLetter (by first | omega | decide) (by first | assumption | (simp (disch := omega) only [mu_s, mu_n]; first | assumption | rfl)) (Nat.le_of_ble_eq_true rfl) (Nat.le_of_ble_eq_true rfl) ?_
    refine c_noLetter hO hl6 ?_
    refine ev_top (i_op (congrArg bI ((congrArg Bool.not hx).trans rfl : (!inR (nI j) l.1) = false))) ?_
    refine ev_if_eqB 15 dX8_press_10 (by decide) (fun b10 => ?_) (fun b10 => by cases b10)
    refine ev_aload_n (i := 0) dX8_press_15 rfl rfl ?_
    refine ev_V0 (μ1 := mX8_note) dX8_press_16 sX8_120 okX8_note (by first | omega | decide) (by first | assumption | (simp (disch := omega) only [mu_s, mu_n]; first | assumption | rfl)) (Nat.le_of_ble_eq_true rfl) (Nat.le_of_ble_eq_true rfl) ?_
    refine c_note hO hR o5 (fun M1 ha hO1 hR1 => ?_)
    have y0 := hO1
    unfold kO at y0
    refine ev_aload_n (i := 0) dX8_press_19 rfl rfl ?_
    refine ev_aload_n (i := 0) dX8_press_20 rfl rfl ?_
    refine ev_getfield dX8_press_21 fX8_28 (by first | omega | decide) (by first | assumption | (simp (disch := omega) only [mu_s, mu_n]; first | assumption | rfl)) (by rfl) ?_
    refine ev_iload_n (i := 1) dX8_press_24 rfl rfl ?_
    refine ev_V2 (μ1 := mX8_goPress) dX8_press_25 sX8_123 okX8_goPress (by first | omega | decide) (by first | assumption | (simp (disch := omega) only [mu_s, mu_n]; first | assumption | rfl)) (Nat.le_of_ble_eq_true rfl) (Nat.le_of_ble_eq_true rfl) ?_
    refine c_mGoPress (by omega) hR1.2.2.1 o3 hO1 hR1.2.1 o2 hj (fun M2 ha2 hk2 => ?_)
    have hO2 := kO_ag hO1 ha2 (by omega)
    have hR2 := kR_pg hR1 ha2 hk2
    have z0 := hO2
    unfold kO at z0
    refine ev_aload_n (i := 0) dX8_press_28 rfl rfl ?_
    refine ev_getfield dX8_press_29 fX8_28 (by first | omega | decide) (by first | assumption | (simp (disch := omega) only [mu_s, mu_n]; first | assumption | rfl)) (by rfl) ?_
    refine ev_S1 (μ1 := mX8_shown) dX8_press_32 sX8_102 okX8_shown (Nat.le_of_ble_eq_true rfl) (Nat.le_of_ble_eq_true rfl) ?_
    refine c_mShown (by omega) hk2 (pgPress_ok o3 (by omega)) ?_
    refine ev_S1 (μ1 := mX8_many) dX8_press_35 sX8_127 okX8_many (Nat.le_of_ble_eq_true rfl) (Nat.le_of_ble_eq_true rfl) ?_
    refine c_many (Nat.lt_of_lt_of_le (shN_lt _ _) (by decide)) ?_
    refine ev_reti dX8_press_38 rfl rfl ?_
    exact hp M2 (ag_tr ha ha2) ⟨⟨e, hO2⟩, hR2⟩
  | false =>
    have e1 : a_press (t, l, p, a, sl, v, sd) x = (-1) := by unfold a_press; rw [hx]; rfl
    have e2 : n_press (t, l, p, a, sl, v, sd) x = (t, l, p, a, sl, v, sd) := by unfold n_press; rw [hx]; rfl
    rw [e1, e2] at hp
    refine ev_aload_n (i := 0) dX8_press_5 rfl rfl ?_
    refine ev_iload_n (i := 1) dX8_press_6 rfl rfl ?_
    refine ev_V1 (μ1 := mX8_noLetter) dX8_press_7 sX8_113 okX8_noLetter (by first | omega | decide) (by first | assumption | (simp (disch := omega) only [mu_s, mu_n]; first | assumption | rfl)) (Nat.le_of_ble_eq_true rfl) (Nat.le_of_ble_eq_true rfl) ?_
    refine c_noLetter hO hl6 ?_
    refine ev_top (i_op (congrArg bI ((congrArg Bool.not hx).trans rfl : (!inR x l.1) = true))) ?_
    refine ev_if_eqB 15 dX8_press_10 (by decide) (fun b10 => by cases b10) (fun b10 => ?_)
    refine ev_iconst (v := (-1)) dX8_press_13 rfl ?_
    refine ev_reti dX8_press_14 rfl rfl ?_
    exact hp M0 (ag_rf M0 _ _) h
theorem R_day (h : kM M s) (ho : cOk s) (hp : ∀ M1, ag M M1 72 88 → kM M1 (n_day s) → P (some (.int (a_day s))) M1) : Ev 88 7 mX8_day none 0 [.ref 72] [] M P := by
  refine m_thr dX8_day_0 dX8_day_1 dX8_day_2 fwX8_60 h (fun M0 a0 h => ?_)
  replace hp : ∀ M1, ag M0 M1 72 88 → kM M1 (n_day s) → P (some (.int (a_day s))) M1 := fun M1 ha hk => hp M1 (ag_tr (ag_wd a0 : ag M M0 72 88) ha) hk
  clear a0
  obtain ⟨t, l, p, a, sl, v, sd⟩ := s
  obtain ⟨⟨e, x0⟩, hR⟩ := id h
  obtain ⟨h1, h2, h3, h11, h4, h5, h6, h7⟩ : arr M0 73 40 t.1 t.2 ∧ kML M0 l ∧ kG M0 79 p ∧ (∃ q, kG M0 80 q) ∧ kBk M0 a ∧ kKp M0 sl ∧ kMV M0 v ∧ kX M0 := id hR
  obtain ⟨o1, o2, o3, o4, o5, o6, o7⟩ : txOk t ∧ ltOk l ∧ pgOk p ∧ (∀ q ∈ a, pgOk q) ∧ a.length ≤ 14 ∧ (∀ i q, sl i = some q → pgOk q) ∧ ovOk v := ho
  have hO : kO M0 e t.1 l.1 a.length v.1 sd := x0
  have hl6 := o2.1
  have hv6 := o7.1
  unfold kO at x0
  refine ev_aload_n (i := 0) dX8_day_5 rfl rfl ?_
  refine ev_V0 (μ1 := mX8_note) dX8_day_6 sX8_120 okX8_note (by first | omega | decide) (by first | assumption | (simp (disch := omega) only [mu_s, mu_n]; first | assumption | rfl)) (Nat.le_of_ble_eq_true rfl) (Nat.le_of_ble_eq_true rfl) ?_
  refine c_note hO hR o5 (fun M1 ha hO1 hR1 => ?_)
  have y0 := hO1
  unfold kO at y0
  refine ev_aload_n (i := 0) dX8_day_9 rfl rfl ?_
  refine ev_getfield dX8_day_10 fX8_28 (by first | omega | decide) (by first | assumption | (simp (disch := omega) only [mu_s, mu_n]; first | assumption | rfl)) (by rfl) ?_
  refine ev_S1 (μ1 := mX8_goDay) dX8_day_13 sX8_130 okX8_goDay (Nat.le_of_ble_eq_true rfl) (Nat.le_of_ble_eq_true rfl) ?_
  refine c_mGoDay (by omega) hR1.2.2.1 o3 (fun M2 ha2 hk2 => ?_)
  have hO2 := kO_ag hO1 ha2 (by omega)
  have hR2 := kR_pg hR1 ha2 hk2
  have z0 := hO2
  unfold kO at z0
  obtain ⟨f, f1, f2⟩ := id hk2
  refine ev_aload_n (i := 0) dX8_day_16 rfl rfl ?_
  refine ev_getfield dX8_day_17 fX8_28 (by first | omega | decide) (by first | assumption | (simp (disch := omega) only [mu_s, mu_n]; first | assumption | rfl)) (by rfl) ?_
  refine ev_bipush (v := nI 24) dX8_day_20 rfl ?_
  refine ev_ialoadN dX8_day_22 (by first | omega | decide) (by first | assumption | (simp (disch := omega) only [mu_s, mu_n]; first | assumption | rfl)) (by omega) (by decide) ?_
  refine ev_reti dX8_day_23 rfl rfl ?_
  rw [f2.2.2]; exact hp M2 (ag_tr ha ha2) ⟨⟨e, hO2⟩, hR2⟩
theorem R_rub {x : Int32} (h : kM M s) (ho : cOk s) (hp : ∀ M1, ag M M1 72 88 → kM M1 (n_rub s x) → P (some (.int (a_rub s x))) M1) : Ev 88 7 mX8_rub none 0 [.ref 72, .int x, .null] [] M P := by
  refine m_thr dX8_rub_0 dX8_rub_1 dX8_rub_2 fwX8_60 h (fun M0 a0 h => ?_)
  replace hp : ∀ M1, ag M0 M1 72 88 → kM M1 (n_rub s x) → P (some (.int (a_rub s x))) M1 := fun M1 ha hk => hp M1 (ag_tr (ag_wd a0 : ag M M0 72 88) ha) hk
  clear a0
  obtain ⟨t, l, p, a, sl, v, sd⟩ := s
  obtain ⟨⟨e, x0⟩, hR⟩ := id h
  obtain ⟨h1, h2, h3, h11, h4, h5, h6, h7⟩ : arr M0 73 40 t.1 t.2 ∧ kML M0 l ∧ kG M0 79 p ∧ (∃ q, kG M0 80 q) ∧ kBk M0 a ∧ kKp M0 sl ∧ kMV M0 v ∧ kX M0 := id hR
  obtain ⟨o1, o2, o3, o4, o5, o6, o7⟩ : txOk t ∧ ltOk l ∧ pgOk p ∧ (∀ q ∈ a, pgOk q) ∧ a.length ≤ 14 ∧ (∀ i q, sl i = some q → pgOk q) ∧ ovOk v := ho
  have hO : kO M0 e t.1 l.1 a.length v.1 sd := x0
  have hl6 := o2.1
  have hv6 := o7.1
  unfold kO at x0
  obtain ⟨f, y1, y2⟩ := id h3
  cases hx : inR x 12 with
  | true =>
    obtain ⟨j, hj, rfl⟩ := inR_of hx (by omega)
    have h9 := (o3 j hj).1
    by_cases h0 : p.1 j = 0
    · have e1 : a_rub (t, l, p, a, sl, v, sd) (nI j) = (-3) := by unfold a_rub; rw [if_pos hx, n_cl (by omega), if_pos h0]
      have e2 : n_rub (t, l, p, a, sl, v, sd) (nI j) = (t, l, p, a, sl, v, sd) := by unfold n_rub; rw [n_cl (by omega), if_neg (fun z => z.2 h0)]
      rw [e1, e2] at hp
      refine ev_iload_n (i := 1) dX8_rub_5 rfl rfl ?_
      refine ev_S1 (μ1 := mX8_noCell) dX8_rub_6 sX8_117 okX8_noCell (Nat.le_of_ble_eq_true rfl) (Nat.le_of_ble_eq_true rfl) ?_
      refine c_noCell ?_
      refine ev_top (i_op (congrArg bI ((congrArg Bool.not hx).trans rfl : (!inR (nI j) 12) = false))) ?_
      refine ev_if_eqB 15 dX8_rub_9 (by decide) (fun b9 => ?_) (fun b9 => by cases b9)
      refine ev_aload_n (i := 0) dX8_rub_15 rfl rfl ?_
      refine ev_getfield dX8_rub_16 fX8_28 (by first | omega | decide) (by first | assumption | (simp (disch := omega) only [mu_s, mu_n]; first | assumption | rfl)) (by rfl) ?_
      refine ev_iconst (v := nI 0) dX8_rub_19 rfl ?_
      refine ev_iload_n (i := 1) dX8_rub_20 rfl rfl ?_
      refine ev_iaddN dX8_rub_21 ?_
      refine ev_ialoadN dX8_rub_22 (by first | omega | decide) (by first | assumption | (simp (disch := omega) only [mu_s, mu_n]; first | assumption | rfl)) (by omega) (by decide) ?_
      refine ev_top (i_op ((congrArg f (Nat.zero_add j)).trans (y2.1 j hj))) ?_
      refine ev_istore_n (i := 2) dX8_rub_23 rfl (by decide) rfl ?_
      refine ev_iload_n (i := 2) dX8_rub_24 rfl rfl ?_
      refine ev_if_neN 31 dX8_rub_25 (by decide) (by omega) (fun b25 => by exfalso; omega) (fun b25 => ?_)
      refine ev_bipush (v := (-3)) dX8_rub_28 rfl ?_
      refine ev_reti dX8_rub_30 rfl rfl ?_
      exact hp M0 (ag_rf M0 _ _) h
    · have e1 : a_rub (t, l, p, a, sl, v, sd) (nI j) = nI (p.1 j) := by unfold a_rub; rw [if_pos hx, n_cl (by omega), if_neg h0]
      have e2 : n_rub (t, l, p, a, sl, v, sd) (nI j) = (t, l, pgClean j p, actsAdd a p, sl, v, sd) := by unfold n_rub; rw [n_cl (by omega), if_pos ⟨hx, h0⟩]
      rw [e1, e2] at hp
      refine ev_iload_n (i := 1) dX8_rub_5 rfl rfl ?_
      refine ev_S1 (μ1 := mX8_noCell) dX8_rub_6 sX8_117 okX8_noCell (Nat.le_of_ble_eq_true rfl) (Nat.le_of_ble_eq_true rfl) ?_
      refine c_noCell ?_
      refine ev_top (i_op (congrArg bI ((congrArg Bool.not hx).trans rfl : (!inR (nI j) 12) = false))) ?_
      refine ev_if_eqB 15 dX8_rub_9 (by decide) (fun b9 => ?_) (fun b9 => by cases b9)
      refine ev_aload_n (i := 0) dX8_rub_15 rfl rfl ?_
      refine ev_getfield dX8_rub_16 fX8_28 (by first | omega | decide) (by first | assumption | (simp (disch := omega) only [mu_s, mu_n]; first | assumption | rfl)) (by rfl) ?_
      refine ev_iconst (v := nI 0) dX8_rub_19 rfl ?_
      refine ev_iload_n (i := 1) dX8_rub_20 rfl rfl ?_
      refine ev_iaddN dX8_rub_21 ?_
      refine ev_ialoadN dX8_rub_22 (by first | omega | decide) (by first | assumption | (simp (disch := omega) only [mu_s, mu_n]; first | assumption | rfl)) (by omega) (by decide) ?_
      refine ev_top (i_op ((congrArg f (Nat.zero_add j)).trans (y2.1 j hj))) ?_
      refine ev_istore_n (i := 2) dX8_rub_23 rfl (by decide) rfl ?_
      refine ev_iload_n (i := 2) dX8_rub_24 rfl rfl ?_
      refine ev_if_neN 31 dX8_rub_25 (by decide) (by omega) (fun b25 => ?_) (fun b25 => by exfalso; omega)
      refine ev_aload_n (i := 0) dX8_rub_31 rfl rfl ?_
      refine ev_V0 (μ1 := mX8_note) dX8_rub_32 sX8_120 okX8_note (by first | omega | decide) (by first | assumption | (simp (disch := omega) only [mu_s, mu_n]; first | assumption | rfl)) (Nat.le_of_ble_eq_true rfl) (Nat.le_of_ble_eq_true rfl) ?_
      refine c_note hO hR o5 (fun M1 ha hO1 hR1 => ?_)
      have y0 := hO1
      unfold kO at y0
      obtain ⟨f1, z1, z2⟩ := id hR1.2.2.1
      refine ev_aload_n (i := 0) dX8_rub_35 rfl rfl ?_
      refine ev_getfield dX8_rub_36 fX8_28 (by first | omega | decide) (by first | assumption | (simp (disch := omega) only [mu_s, mu_n]; first | assumption | rfl)) (by rfl) ?_
      refine ev_iconst (v := nI 0) dX8_rub_39 rfl ?_
      refine ev_iload_n (i := 1) dX8_rub_40 rfl rfl ?_
      refine ev_iaddN dX8_rub_41 ?_
      refine ev_iconst (v := nI 0) dX8_rub_42 rfl ?_
      refine ev_iastoreN dX8_rub_43 (by first | omega | decide) (by first | assumption | (simp (disch := omega) only [mu_s, mu_n]; first | assumption | rfl)) (by omega) (by decide) ?_
      refine ev_aload_n (i := 0) dX8_rub_44 rfl rfl ?_
      refine ev_getfield dX8_rub_45 fX8_28 (by first | omega | decide) (by first | assumption | (simp (disch := omega) only [mu_s, mu_n]; first | assumption | rfl)) (by rfl) ?_
      refine ev_bipush (v := nI 12) dX8_rub_48 rfl ?_
      refine ev_iload_n (i := 1) dX8_rub_50 rfl rfl ?_
      refine ev_iaddN dX8_rub_51 ?_
      refine ev_bipush (v := (-9)) dX8_rub_52 rfl ?_
      refine ev_iastoreN dX8_rub_54 (by first | omega | decide) (by first | assumption | (simp (disch := omega) only [mu_s, mu_n]; first | assumption | rfl)) (by omega) (by decide) ?_
      refine ev_iload_n (i := 2) dX8_rub_55 rfl rfl ?_
      refine ev_reti dX8_rub_56 rfl rfl ?_
      have eA : ag M1 (mu (mu M1 79 (.inl (0, 25, .inl (upd f1 (0 + j) (nI 0))))) 79 (.inl (0, 25, .inl (upd (upd f1 (0 + j) (nI 0)) (12 + j) (-9))))) 79 80 := ag_mu (ag_mu (ag_rf M1 _ _) (by omega) (by omega)) (by omega) (by omega)
      refine hp _ (ag_tr ha eA) ⟨⟨e, kO_ag hO1 eA (by omega)⟩, kR_pg hR1 eA ⟨_, mu_s _ _ _, ?_, ?_, ?_⟩⟩
      · intro c hc
        rw [upd_b (by omega)]
        show _ = nI (if c = j then 0 else p.1 c)
        by_cases z : c = j
        · rw [if_pos z, upd_a (by omega)]
        · rw [if_neg z, upd_b (by omega)]; exact z2.1 c hc
      · intro c hc
        show _ = tI (if c = j then none else p.2.1 c)
        by_cases z : c = j
        · rw [if_pos z, upd_a (by omega)]; rfl
        · rw [if_neg z, upd_b (by omega), upd_b (by omega)]; exact z2.2.1 c hc
      · rw [upd_b (by omega), upd_b (by omega)]; exact z2.2.2
  | false =>
    have e1 : a_rub (t, l, p, a, sl, v, sd) x = (-2) := by unfold a_rub; rw [hx]; rfl
    have e2 : n_rub (t, l, p, a, sl, v, sd) x = (t, l, p, a, sl, v, sd) := by unfold n_rub; rw [if_neg (fun z => by rw [hx] at z; cases z.1)]
    rw [e1, e2] at hp
    refine ev_iload_n (i := 1) dX8_rub_5 rfl rfl ?_
    refine ev_S1 (μ1 := mX8_noCell) dX8_rub_6 sX8_117 okX8_noCell (Nat.le_of_ble_eq_true rfl) (Nat.le_of_ble_eq_true rfl) ?_
    refine c_noCell ?_
    refine ev_top (i_op (congrArg bI ((congrArg Bool.not hx).trans rfl : (!inR x 12) = true))) ?_
    refine ev_if_eqB 15 dX8_rub_9 (by decide) (fun b9 => by cases b9) (fun b9 => ?_)
    refine ev_bipush (v := (-2)) dX8_rub_12 rfl ?_
    refine ev_reti dX8_rub_14 rfl rfl ?_
    exact hp M0 (ag_rf M0 _ _) h
theorem R_change (h : kM M s) (ho : cOk s) (hp : ∀ M1, ag M M1 72 88 → kM M1 (n_change s) → P (some (.int (a_change s))) M1) : Ev 88 7 mX8_change none 0 [.ref 72, .null] [] M P := by
  refine m_thr dX8_change_0 dX8_change_1 dX8_change_2 fwX8_60 h (fun M0 a0 h => ?_)
  replace hp : ∀ M1, ag M0 M1 72 88 → kM M1 (n_change s) → P (some (.int (a_change s))) M1 := fun M1 ha hk => hp M1 (ag_tr (ag_wd a0 : ag M M0 72 88) ha) hk
  clear a0
  obtain ⟨t, l, p, a, sl, v, sd⟩ := s
  obtain ⟨⟨e, x0⟩, hR⟩ := id h
  obtain ⟨h1, h2, h3, h11, h4, h5, h6, h7⟩ : arr M0 73 40 t.1 t.2 ∧ kML M0 l ∧ kG M0 79 p ∧ (∃ q, kG M0 80 q) ∧ kBk M0 a ∧ kKp M0 sl ∧ kMV M0 v ∧ kX M0 := id hR
  obtain ⟨o1, o2, o3, o4, o5, o6, o7⟩ : txOk t ∧ ltOk l ∧ pgOk p ∧ (∀ q ∈ a, pgOk q) ∧ a.length ≤ 14 ∧ (∀ i q, sl i = some q → pgOk q) ∧ ovOk v := ho
  have hO : kO M0 e t.1 l.1 a.length v.1 sd := x0
  have hl6 := o2.1
  have hv6 := o7.1
  unfold kO at x0
  have hs := shN_lt p.1 0
  have hc12 := cnt_le (shN p.1 0)
  by_cases h0 : shN p.1 0 = 0
  · have e1 : a_change (t, l, p, a, sl, v, sd) = (-3) := by unfold a_change; rw [if_pos h0]
    have e2 : n_change (t, l, p, a, sl, v, sd) = (t, l, p, a, sl, v, sd) := by unfold n_change; rw [if_pos h0]
    have hz : cnt (shN p.1 0) = 0 := by rw [h0]; exact cnt_z
    rw [e1, e2] at hp
    refine ev_aload_n (i := 0) dX8_change_5 rfl rfl ?_
    refine ev_getfield dX8_change_6 fX8_28 (by first | omega | decide) (by first | assumption | (simp (disch := omega) only [mu_s, mu_n]; first | assumption | rfl)) (by rfl) ?_
    refine ev_S1 (μ1 := mX8_shown) dX8_change_9 sX8_102 okX8_shown (Nat.le_of_ble_eq_true rfl) (Nat.le_of_ble_eq_true rfl) ?_
    refine c_mShown (by omega) h3 o3 ?_
    refine ev_S1 (μ1 := mX8_many) dX8_change_12 sX8_127 okX8_many (Nat.le_of_ble_eq_true rfl) (Nat.le_of_ble_eq_true rfl) ?_
    refine c_many (by omega) ?_
    refine ev_istore_n (i := 1) dX8_change_15 rfl (by decide) rfl ?_
    refine ev_iload_n (i := 1) dX8_change_16 rfl rfl ?_
    refine ev_if_neN 23 dX8_change_17 (by decide) (by omega) (fun b17 => by exfalso; omega) (fun b17 => ?_)
    refine ev_bipush (v := (-3)) dX8_change_20 rfl ?_
    refine ev_reti dX8_change_22 rfl rfl ?_
    exact hp M0 (ag_rf M0 _ _) h
  · have e1 : a_change (t, l, p, a, sl, v, sd) = nI (cnt (shN p.1 0)) := by unfold a_change; rw [if_neg h0]
    have e2 : n_change (t, l, p, a, sl, v, sd) = (t, l, pgNew p.2.2, actsAdd a p, sl, v, sd) := by unfold n_change; rw [if_neg h0]
    have hz : cnt (shN p.1 0) ≠ 0 := fun z => h0 (cnt_0 hs z)
    rw [e1, e2] at hp
    refine ev_aload_n (i := 0) dX8_change_5 rfl rfl ?_
    refine ev_getfield dX8_change_6 fX8_28 (by first | omega | decide) (by first | assumption | (simp (disch := omega) only [mu_s, mu_n]; first | assumption | rfl)) (by rfl) ?_
    refine ev_S1 (μ1 := mX8_shown) dX8_change_9 sX8_102 okX8_shown (Nat.le_of_ble_eq_true rfl) (Nat.le_of_ble_eq_true rfl) ?_
    refine c_mShown (by omega) h3 o3 ?_
    refine ev_S1 (μ1 := mX8_many) dX8_change_12 sX8_127 okX8_many (Nat.le_of_ble_eq_true rfl) (Nat.le_of_ble_eq_true rfl) ?_
    refine c_many (by omega) ?_
    refine ev_istore_n (i := 1) dX8_change_15 rfl (by decide) rfl ?_
    refine ev_iload_n (i := 1) dX8_change_16 rfl rfl ?_
    refine ev_if_neN 23 dX8_change_17 (by decide) (by omega) (fun b17 => ?_) (fun b17 => by exfalso; omega)
    refine ev_aload_n (i := 0) dX8_change_23 rfl rfl ?_
    refine ev_V0 (μ1 := mX8_note) dX8_change_24 sX8_120 okX8_note (by first | omega | decide) (by first | assumption | (simp (disch := omega) only [mu_s, mu_n]; first | assumption | rfl)) (Nat.le_of_ble_eq_true rfl) (Nat.le_of_ble_eq_true rfl) ?_
    refine c_note hO hR o5 (fun M1 ha hO1 hR1 => ?_)
    have y0 := hO1
    unfold kO at y0
    refine ev_aload_n (i := 0) dX8_change_27 rfl rfl ?_
    refine ev_getfield dX8_change_28 fX8_28 (by first | omega | decide) (by first | assumption | (simp (disch := omega) only [mu_s, mu_n]; first | assumption | rfl)) (by rfl) ?_
    refine ev_S1 (μ1 := mX8_clean) dX8_change_31 sX8_56 okX8_clean (Nat.le_of_ble_eq_true rfl) (Nat.le_of_ble_eq_true rfl) ?_
    refine c_mClean (by omega) hR1.2.2.1 (fun M2 ha2 hk2 => ?_)
    refine ev_iload_n (i := 1) dX8_change_34 rfl rfl ?_
    refine ev_reti dX8_change_35 rfl rfl ?_
    exact hp M2 (ag_tr ha ha2) ⟨⟨e, kO_ag hO1 ha2 (by omega)⟩, kR_pg hR1 ha2 hk2⟩
theorem R_undo (h : kM M s) (ho : cOk s) (hp : ∀ M1, ag M M1 72 88 → kM M1 (n_undo s) → P (some (.int (a_undo s))) M1) : Ev 88 7 mX8_undo none 0 [.ref 72, .null] [] M P := by
  refine m_thr dX8_undo_0 dX8_undo_1 dX8_undo_2 fwX8_60 h (fun M0 a0 h => ?_)
  replace hp : ∀ M1, ag M0 M1 72 88 → kM M1 (n_undo s) → P (some (.int (a_undo s))) M1 := fun M1 ha hk => hp M1 (ag_tr (ag_wd a0 : ag M M0 72 88) ha) hk
  clear a0
  obtain ⟨t, l, p, a, sl, v, sd⟩ := s
  obtain ⟨⟨e, x0⟩, hR⟩ := id h
  obtain ⟨h1, h2, h3, h11, h4, h5, h6, h7⟩ : arr M0 73 40 t.1 t.2 ∧ kML M0 l ∧ kG M0 79 p ∧ (∃ q, kG M0 80 q) ∧ kBk M0 a ∧ kKp M0 sl ∧ kMV M0 v ∧ kX M0 := id hR
  obtain ⟨o1, o2, o3, o4, o5, o6, o7⟩ : txOk t ∧ ltOk l ∧ pgOk p ∧ (∀ q ∈ a, pgOk q) ∧ a.length ≤ 14 ∧ (∀ i q, sl i = some q → pgOk q) ∧ ovOk v := ho
  have hO : kO M0 e t.1 l.1 a.length v.1 sd := x0
  have hl6 := o2.1
  have hv6 := o7.1
  unfold kO at x0
  by_cases h0 : a = []
  · subst h0
    have e1 : a_undo (t, l, p, [], sl, v, sd) = (-3) := rfl
    have e2 : n_undo (t, l, p, [], sl, v, sd) = (t, l, p, [], sl, v, sd) := rfl
    rw [e1, e2] at hp
    refine ev_aload_n (i := 0) dX8_undo_5 rfl rfl ?_
    refine ev_getfield dX8_undo_6 fX8_92 (by first | omega | decide) (by first | assumption | (simp (disch := omega) only [mu_s, mu_n]; first | assumption | rfl)) (by rfl) ?_
    refine ev_if_neN 15 dX8_undo_9 (by decide) (by decide) (fun b9 => absurd rfl b9) (fun b9 => ?_)
    refine ev_bipush (v := (-3)) dX8_undo_12 rfl ?_
    refine ev_reti dX8_undo_14 rfl rfl ?_
    exact hp M0 (ag_rf M0 _ _) h
  · have hl0 : 0 < a.length := List.length_pos_iff.mpr h0
    obtain ⟨q, hq⟩ : ∃ q, a.getLast? = some q := ⟨_, List.getLast?_eq_some_getLast h0⟩
    have e1 : a_undo (t, l, p, a, sl, v, sd) = nI (a.length - 1) := by unfold a_undo; rw [if_neg h0]
    have e2 : n_undo (t, l, p, a, sl, v, sd) = (t, l, q, a.dropLast, sl, v, sd) := by unfold n_undo; rw [show (t, l, p, a, sl, v, sd).2.2.2.1.getLast? = some q from hq]
    have hlast : a[a.length - 1]? = some q := by rw [← hq, List.getLast?_eq_getElem?]
    obtain ⟨f, f1, f2⟩ := id h4
    have f3 := f2 _ q hlast
    rw [e1, e2] at hp
    have hd : a.dropLast.length = a.length - 1 := List.length_dropLast
    have hB : kBk M0 a.dropLast := ⟨f, f1, fun i r hr => f2 i r (by
      rw [List.getElem?_dropLast] at hr
      split at hr
      · exact hr
      · cases hr)⟩
    have lp : ∀ (j c : Nat) (M1 : mM) (g : Nat → Int32) (p1 : pg), c + j = 25 → ag M0 M1 72 88 → kO M1 e t.1 l.1 (a.length - 1) v.1 sd → kR M1 (t, l, p1, a.dropLast, sl, v, sd) → M1 79 = .inl (0, 25, .inl g) → M1 81 = .inl (0, 350, .inl f) → (∀ i, i < c → f (25 * (a.length - 1) + i) = g i) → Ev 88 7 mX8_undo none 27 [.ref 72, .int (nI c)] [] M1 P := by
      intro j
      induction j with
      | zero =>
        intro c M1 g p1 hc ha yO yR y1 y2 e1
        obtain rfl : c = 25 := by omega
        have z0 := yO
        unfold kO at z0
        refine ev_iload_n (i := 1) dX8_undo_27 rfl rfl ?_
        refine ev_bipush (v := nI 25) dX8_undo_28 rfl ?_
        refine ev_icmp_geN 59 dX8_undo_30 (by decide) (by omega) (by omega) (fun b30 => ?_) (fun b30 => by exfalso; omega)
        refine ev_aload_n (i := 0) dX8_undo_59 rfl rfl ?_
        refine ev_getfield dX8_undo_60 fX8_92 (by first | omega | decide) (by first | assumption | (simp (disch := omega) only [mu_s, mu_n]; first | assumption | rfl)) (by rfl) ?_
        refine ev_reti dX8_undo_63 rfl rfl ?_
        refine hp M1 ha ⟨⟨e, by show kO M1 e t.1 l.1 a.dropLast.length v.1 sd; rw [hd]; exact yO⟩, kR_pg yR (ag_rf M1 _ _) ⟨g, y1, gF_cong f3 (fun j hj => e1 j hj)⟩⟩
      | succ j ih =>
        intro c M1 g p1 hc ha yO yR y1 y2 e1
        have z0 := yO
        unfold kO at z0
        have eA : ag M1 (mu M1 79 (.inl (0, 25, .inl (upd g c (f (25 * (a.length - 1) + c)))))) 79 80 := ag_mu (ag_rf M1 _ _) (by omega) (by omega)
        obtain ⟨p2, hp2⟩ := gF_any (upd g c (f (25 * (a.length - 1) + c)))
        refine ev_iload_n (i := 1) dX8_undo_27 rfl rfl ?_
        refine ev_bipush (v := nI 25) dX8_undo_28 rfl ?_
        refine ev_icmp_geN 59 dX8_undo_30 (by decide) (by omega) (by omega) (fun b30 => by exfalso; omega) (fun b30 => ?_)
        refine ev_aload_n (i := 0) dX8_undo_33 rfl rfl ?_
        refine ev_getfield dX8_undo_34 fX8_28 (by first | omega | decide) (by first | assumption | (simp (disch := omega) only [mu_s, mu_n]; first | assumption | rfl)) (by rfl) ?_
        refine ev_iload_n (i := 1) dX8_undo_37 rfl rfl ?_
        refine ev_aload_n (i := 0) dX8_undo_38 rfl rfl ?_
        refine ev_getfield dX8_undo_39 fX8_34 (by first | omega | decide) (by first | assumption | (simp (disch := omega) only [mu_s, mu_n]; first | assumption | rfl)) (by rfl) ?_
        refine ev_bipush (v := nI 25) dX8_undo_42 rfl ?_
        refine ev_aload_n (i := 0) dX8_undo_44 rfl rfl ?_
        refine ev_getfield dX8_undo_45 fX8_92 (by first | omega | decide) (by first | assumption | (simp (disch := omega) only [mu_s, mu_n]; first | assumption | rfl)) (by rfl) ?_
        refine ev_imulN dX8_undo_48 ?_
        refine ev_iload_n (i := 1) dX8_undo_49 rfl rfl ?_
        refine ev_iaddN dX8_undo_50 ?_
        refine ev_ialoadN dX8_undo_51 (by first | omega | decide) (by first | assumption | (simp (disch := omega) only [mu_s, mu_n]; first | assumption | rfl)) (by omega) (by decide) ?_
        refine ev_iastoreN dX8_undo_52 (by first | omega | decide) (by first | assumption | (simp (disch := omega) only [mu_s, mu_n]; first | assumption | rfl)) (by omega) (by decide) ?_
        refine ev_incN dX8_undo_53 (by rfl) (by decide) rfl ?_
        refine ev_goto 27 dX8_undo_56 (by decide) ?_
        exact ih (c + 1) _ _ p2 (by omega) (ag_tr ha eA) (kO_ag yO eA (by omega)) (kR_pg yR eA ⟨_, mu_s _ _ _, hp2⟩) (mu_s _ _ _) ((mu_n (by omega)).trans y2) (fun i hi => by
          by_cases z : i = c
          · rw [z]; exact (upd_a rfl).symm
          · exact (e1 i (by omega)).trans (upd_b z).symm)
    obtain ⟨g, g1, g2⟩ := id h3
    have eA : ag M0 (mu M0 72 (.inr (8, [.int (e 0), .ref 73, .int (nI t.1), .int (e 1), .int (nI l.1), .ref 74, .ref 75, .ref 76, .ref 77, .int (e 2), .ref 78, .ref 79, .ref 80, .ref 81, .int (nI (a.length - 1)), .ref 82, .ref 83, .int (nI v.1), .ref 84, .ref 85, .long sd, .int (e 3), .int (e 4), .int (e 5), .int (e 6), .ref 86, .ref 87]))) 72 73 := ag_mu (ag_rf M0 _ _) (by omega) (by omega)
    refine ev_aload_n (i := 0) dX8_undo_5 rfl rfl ?_
    refine ev_getfield dX8_undo_6 fX8_92 (by first | omega | decide) (by first | assumption | (simp (disch := omega) only [mu_s, mu_n]; first | assumption | rfl)) (by rfl) ?_
    refine ev_if_neN 15 dX8_undo_9 (by decide) (by omega) (fun b9 => ?_) (fun b9 => by exfalso; omega)
    refine ev_aload_n (i := 0) dX8_undo_15 rfl rfl ?_
    refine ev_dup dX8_undo_16 rfl ?_
    refine ev_getfield dX8_undo_17 fX8_92 (by first | omega | decide) (by first | assumption | (simp (disch := omega) only [mu_s, mu_n]; first | assumption | rfl)) (by rfl) ?_
    refine ev_iconst (v := nI 1) dX8_undo_20 rfl ?_
    refine ev_isubN dX8_undo_21 (by omega) ?_
    refine ev_putI dX8_undo_22 fwX8_92 (by first | omega | decide) (by first | assumption | (simp (disch := omega) only [mu_s, mu_n]; first | assumption | rfl)) (Nat.le_of_ble_eq_true rfl) ?_
    refine ev_iconst (v := nI 0) dX8_undo_25 rfl ?_
    refine ev_istore_n (i := 1) dX8_undo_26 rfl (by decide) rfl ?_
    exact lp 25 0 _ g p rfl (ag_wd eA) (mu_s _ _ _) (kR_ob (kR_bk hR (ag_rf M0 _ _) hB) eA) ((mu_n (by omega)).trans g1) ((mu_n (by omega)).trans f1) (fun i hi => absurd hi (Nat.not_lt_zero i))
theorem R_lasts {x : Int32} (h : kM M s) (ho : cOk s) (hp : ∀ M1, ag M M1 72 88 → kM M1 (s) → P (some (.int (a_lasts s x))) M1) : Ev 88 7 mX8_lasts none 0 [.ref 72, .int x, .null] [] M P := by
  refine m_thr dX8_lasts_0 dX8_lasts_1 dX8_lasts_2 fwX8_60 h (fun M0 a0 h => ?_)
  replace hp : ∀ M1, ag M0 M1 72 88 → kM M1 (s) → P (some (.int (a_lasts s x))) M1 := fun M1 ha hk => hp M1 (ag_tr (ag_wd a0 : ag M M0 72 88) ha) hk
  clear a0
  obtain ⟨t, l, p, a, sl, v, sd⟩ := s
  obtain ⟨⟨e, x0⟩, hR⟩ := id h
  obtain ⟨h1, h2, h3, h11, h4, h5, h6, h7⟩ : arr M0 73 40 t.1 t.2 ∧ kML M0 l ∧ kG M0 79 p ∧ (∃ q, kG M0 80 q) ∧ kBk M0 a ∧ kKp M0 sl ∧ kMV M0 v ∧ kX M0 := id hR
  obtain ⟨o1, o2, o3, o4, o5, o6, o7⟩ : txOk t ∧ ltOk l ∧ pgOk p ∧ (∀ q ∈ a, pgOk q) ∧ a.length ≤ 14 ∧ (∀ i q, sl i = some q → pgOk q) ∧ ovOk v := ho
  have hO : kO M0 e t.1 l.1 a.length v.1 sd := x0
  have hl6 := o2.1
  have hv6 := o7.1
  unfold kO at x0
  unfold a_lasts at hp
  cases hx : inR x l.1 with
  | true =>
    rw [if_pos hx] at hp
    obtain ⟨j, hj, rfl⟩ := inR_of hx (by omega)
    rw [n_cl (by omega)] at hp
    have lp : ∀ (k n : Nat), n + k = 9 → lf (fun n => !rdN l (shN p.1 n) j) 9 0 = lf (fun n => !rdN l (shN p.1 n) j) k n → Ev 88 7 mX8_lasts none 17 [.ref 72, .int (nI j), .int (nI n)] [] M0 P := by
      intro k
      induction k with
      | zero =>
        intro n hn hq
        obtain rfl : n = 9 := by omega
        have hz : rdN l (shN p.1 9) j = false := by
          have h0 : shN p.1 9 = 0 := by
            unfold shN
            apply Nat.eq_of_testBit_eq
            intro i
            rw [bN_tb, Nat.zero_testBit]
            rcases Nat.lt_or_ge i 12 with z | z
            · rw [decide_eq_false (show ¬ 9 < p.1 i by have := (o3 i z).1; omega), Bool.and_false]
            · rw [decide_eq_false (show ¬ i < 12 by omega), Bool.false_and]
          have := (ltOk_cells o2 hj).2
          unfold rdN
          rw [h0, Nat.zero_and]
          exact decide_eq_false (by omega)
        have hv : lf (fun n => !rdN l (shN p.1 n) j) 0 9 = none := rfl
        rw [hv] at hq
        rw [show lf (fun n => !rdN (t, l, p, a, sl, v, sd).2.1 (shN (t, l, p, a, sl, v, sd).2.2.1.1 n) j) 9 0 = none from hq] at hp
        refine ev_aload_n (i := 0) dX8_lasts_17 rfl rfl ?_
        refine ev_iload_n (i := 1) dX8_lasts_18 rfl rfl ?_
        refine ev_aload_n (i := 0) dX8_lasts_19 rfl rfl ?_
        refine ev_iload_n (i := 2) dX8_lasts_20 rfl rfl ?_
        refine ev_V1 (μ1 := mX8_shownIn) dX8_lasts_21 sX8_135 okX8_shownIn (by first | omega | decide) (by first | assumption | (simp (disch := omega) only [mu_s, mu_n]; first | assumption | rfl)) (Nat.le_of_ble_eq_true rfl) (Nat.le_of_ble_eq_true rfl) ?_
        refine c_mShownIn hO h3 o3 (by omega) ?_
        refine ev_V2 (μ1 := mX8_isRead) dX8_lasts_24 sX8_95 okX8_isRead (by first | omega | decide) (by first | assumption | (simp (disch := omega) only [mu_s, mu_n]; first | assumption | rfl)) (Nat.le_of_ble_eq_true rfl) (Nat.le_of_ble_eq_true rfl) ?_
        refine c_mIsRead hO h2 o2 hj ?_
        refine ev_if_eqB 36 dX8_lasts_27 (by decide) (fun b27 => ?_) (fun b27 => by rw [hz] at b27; cases b27)
        refine ev_iload_n (i := 2) dX8_lasts_36 rfl rfl ?_
        refine ev_reti dX8_lasts_37 rfl rfl ?_
        exact hp M0 (ag_rf M0 _ _) h
      | succ k ih =>
        intro n hn hq
        cases hb : rdN l (shN p.1 n) j with
        | true =>
          refine ev_aload_n (i := 0) dX8_lasts_17 rfl rfl ?_
          refine ev_iload_n (i := 1) dX8_lasts_18 rfl rfl ?_
          refine ev_aload_n (i := 0) dX8_lasts_19 rfl rfl ?_
          refine ev_iload_n (i := 2) dX8_lasts_20 rfl rfl ?_
          refine ev_V1 (μ1 := mX8_shownIn) dX8_lasts_21 sX8_135 okX8_shownIn (by first | omega | decide) (by first | assumption | (simp (disch := omega) only [mu_s, mu_n]; first | assumption | rfl)) (Nat.le_of_ble_eq_true rfl) (Nat.le_of_ble_eq_true rfl) ?_
          refine c_mShownIn hO h3 o3 (by omega) ?_
          refine ev_V2 (μ1 := mX8_isRead) dX8_lasts_24 sX8_95 okX8_isRead (by first | omega | decide) (by first | assumption | (simp (disch := omega) only [mu_s, mu_n]; first | assumption | rfl)) (Nat.le_of_ble_eq_true rfl) (Nat.le_of_ble_eq_true rfl) ?_
          refine c_mIsRead hO h2 o2 hj ?_
          refine ev_if_eqB 36 dX8_lasts_27 (by decide) (fun b27 => by rw [hb] at b27; cases b27) (fun b27 => ?_)
          refine ev_incN dX8_lasts_30 (by rfl) (by decide) rfl ?_
          refine ev_goto 17 dX8_lasts_33 (by decide) ?_
          exact ih (n + 1) (by omega) (hq.trans (lf_f (by rw [hb]; rfl)))
        | false =>
          rw [show lf (fun n => !rdN (t, l, p, a, sl, v, sd).2.1 (shN (t, l, p, a, sl, v, sd).2.2.1.1 n) j) 9 0 = some n from hq.trans (lf_t (by rw [hb]; rfl))] at hp
          refine ev_aload_n (i := 0) dX8_lasts_17 rfl rfl ?_
          refine ev_iload_n (i := 1) dX8_lasts_18 rfl rfl ?_
          refine ev_aload_n (i := 0) dX8_lasts_19 rfl rfl ?_
          refine ev_iload_n (i := 2) dX8_lasts_20 rfl rfl ?_
          refine ev_V1 (μ1 := mX8_shownIn) dX8_lasts_21 sX8_135 okX8_shownIn (by first | omega | decide) (by first | assumption | (simp (disch := omega) only [mu_s, mu_n]; first | assumption | rfl)) (Nat.le_of_ble_eq_true rfl) (Nat.le_of_ble_eq_true rfl) ?_
          refine c_mShownIn hO h3 o3 (by omega) ?_
          refine ev_V2 (μ1 := mX8_isRead) dX8_lasts_24 sX8_95 okX8_isRead (by first | omega | decide) (by first | assumption | (simp (disch := omega) only [mu_s, mu_n]; first | assumption | rfl)) (Nat.le_of_ble_eq_true rfl) (Nat.le_of_ble_eq_true rfl) ?_
          refine c_mIsRead hO h2 o2 hj ?_
          refine ev_if_eqB 36 dX8_lasts_27 (by decide) (fun b27 => ?_) (fun b27 => by rw [hb] at b27; cases b27)
          refine ev_iload_n (i := 2) dX8_lasts_36 rfl rfl ?_
          refine ev_reti dX8_lasts_37 rfl rfl ?_
          exact hp M0 (ag_rf M0 _ _) h
    refine ev_aload_n (i := 0) dX8_lasts_5 rfl rfl ?_
    refine ev_iload_n (i := 1) dX8_lasts_6 rfl rfl ?_
    refine ev_V1 (μ1 := mX8_noLetter) dX8_lasts_7 sX8_113 okX8_noLetter (by first | omega | decide) (by first | assumption | (simp (disch := omega) only [mu_s, mu_n]; first | assumption | rfl)) (Nat.le_of_ble_eq_true rfl) (Nat.le_of_ble_eq_true rfl) ?_
    refine c_noLetter hO hl6 ?_
    refine ev_top (i_op (congrArg bI ((congrArg Bool.not hx).trans rfl : (!inR (nI j) l.1) = false))) ?_
    refine ev_if_eqB 15 dX8_lasts_10 (by decide) (fun b10 => ?_) (fun b10 => by cases b10)
    refine ev_iconst (v := nI 0) dX8_lasts_15 rfl ?_
    refine ev_istore_n (i := 2) dX8_lasts_16 rfl (by decide) rfl ?_
    exact lp 9 0 rfl rfl
  | false =>
    rw [hx, if_neg (by decide)] at hp
    refine ev_aload_n (i := 0) dX8_lasts_5 rfl rfl ?_
    refine ev_iload_n (i := 1) dX8_lasts_6 rfl rfl ?_
    refine ev_V1 (μ1 := mX8_noLetter) dX8_lasts_7 sX8_113 okX8_noLetter (by first | omega | decide) (by first | assumption | (simp (disch := omega) only [mu_s, mu_n]; first | assumption | rfl)) (Nat.le_of_ble_eq_true rfl) (Nat.le_of_ble_eq_true rfl) ?_
    refine c_noLetter hO hl6 ?_
    refine ev_top (i_op (congrArg bI ((congrArg Bool.not hx).trans rfl : (!inR x l.1) = true))) ?_
    refine ev_if_eqB 15 dX8_lasts_10 (by decide) (fun b10 => by cases b10) (fun b10 => ?_)
    refine ev_iconst (v := (-1)) dX8_lasts_13 rfl ?_
    refine ev_reti dX8_lasts_14 rfl rfl ?_
    exact hp M0 (ag_rf M0 _ _) h
theorem R_untell (h : kM M s) (ho : cOk s) (hp : ∀ M1, ag M M1 72 88 → kM M1 (n_untell s) → P (some (.int (nI s.2.2.2.2.2.1.1))) M1) : Ev 88 7 mX8_untell none 0 [.ref 72, .null] [] M P := by
  refine m_thr dX8_untell_0 dX8_untell_1 dX8_untell_2 fwX8_60 h (fun M0 a0 h => ?_)
  replace hp : ∀ M1, ag M0 M1 72 88 → kM M1 (n_untell s) → P (some (.int (nI s.2.2.2.2.2.1.1))) M1 := fun M1 ha hk => hp M1 (ag_tr (ag_wd a0 : ag M M0 72 88) ha) hk
  clear a0
  obtain ⟨t, l, p, a, sl, v, sd⟩ := s
  obtain ⟨⟨e, x0⟩, hR⟩ := id h
  obtain ⟨h1, h2, h3, h11, h4, h5, h6, h7⟩ : arr M0 73 40 t.1 t.2 ∧ kML M0 l ∧ kG M0 79 p ∧ (∃ q, kG M0 80 q) ∧ kBk M0 a ∧ kKp M0 sl ∧ kMV M0 v ∧ kX M0 := id hR
  obtain ⟨o1, o2, o3, o4, o5, o6, o7⟩ : txOk t ∧ ltOk l ∧ pgOk p ∧ (∀ q ∈ a, pgOk q) ∧ a.length ≤ 14 ∧ (∀ i q, sl i = some q → pgOk q) ∧ ovOk v := ho
  have hO : kO M0 e t.1 l.1 a.length v.1 sd := x0
  have hl6 := o2.1
  have hv6 := o7.1
  unfold kO at x0
  obtain ⟨⟨fa, xa, -⟩, ⟨fb, xb, -⟩⟩ := id h6
  refine ev_aload_n (i := 0) dX8_untell_5 rfl rfl ?_
  refine ev_getfield dX8_untell_6 fX8_110 (by first | omega | decide) (by first | assumption | (simp (disch := omega) only [mu_s, mu_n]; first | assumption | rfl)) (by rfl) ?_
  refine ev_istore_n (i := 1) dX8_untell_9 rfl (by decide) rfl ?_
  refine ev_aload_n (i := 0) dX8_untell_10 rfl rfl ?_
  refine ev_iconst (v := nI 0) dX8_untell_11 rfl ?_
  refine ev_putI dX8_untell_12 fwX8_110 (by first | omega | decide) (by first | assumption | (simp (disch := omega) only [mu_s, mu_n]; first | assumption | rfl)) (Nat.le_of_ble_eq_true rfl) ?_
  refine ev_iload_n (i := 1) dX8_untell_15 rfl rfl ?_
  refine ev_reti dX8_untell_16 rfl rfl ?_
  exact hp _ (ag_mu (ag_rf M0 _ _) (by omega) (by omega)) ⟨⟨e, mu_s _ _ _⟩, kR_ob (M := M0) (kR_mv (v1 := (0, v.2)) hR (ag_rf M0 _ _) ⟨⟨fa, xa, fun j hj => absurd hj (Nat.not_lt_zero j)⟩, fb, xb, fun j hj => absurd hj (Nat.not_lt_zero j)⟩) (ag_mu (ag_rf M0 _ _) (by omega) (by omega))⟩
theorem R_seed {x : Int64} (h : kM M s) (ho : cOk s) (hp : ∀ M1, ag M M1 72 88 → kM M1 (n_seed s x) → P (some (.long s.2.2.2.2.2.2)) M1) : Ev 88 7 mX8_seed none 0 [.ref 72, .long x, .null, .null, .null] [] M P := by
  refine m_thr dX8_seed_0 dX8_seed_1 dX8_seed_2 fwX8_60 h (fun M0 a0 h => ?_)
  replace hp : ∀ M1, ag M0 M1 72 88 → kM M1 (n_seed s x) → P (some (.long s.2.2.2.2.2.2)) M1 := fun M1 ha hk => hp M1 (ag_tr (ag_wd a0 : ag M M0 72 88) ha) hk
  clear a0
  obtain ⟨t, l, p, a, sl, v, sd⟩ := s
  obtain ⟨⟨e, x0⟩, hR⟩ := id h
  obtain ⟨h1, h2, h3, h11, h4, h5, h6, h7⟩ : arr M0 73 40 t.1 t.2 ∧ kML M0 l ∧ kG M0 79 p ∧ (∃ q, kG M0 80 q) ∧ kBk M0 a ∧ kKp M0 sl ∧ kMV M0 v ∧ kX M0 := id hR
  obtain ⟨o1, o2, o3, o4, o5, o6, o7⟩ : txOk t ∧ ltOk l ∧ pgOk p ∧ (∀ q ∈ a, pgOk q) ∧ a.length ≤ 14 ∧ (∀ i q, sl i = some q → pgOk q) ∧ ovOk v := ho
  have hO : kO M0 e t.1 l.1 a.length v.1 sd := x0
  have hl6 := o2.1
  have hv6 := o7.1
  unfold kO at x0
  refine ev_aload_n (i := 0) dX8_seed_5 rfl rfl ?_
  refine ev_getfield dX8_seed_6 fX8_197 (by first | omega | decide) (by first | assumption | (simp (disch := omega) only [mu_s, mu_n]; first | assumption | rfl)) (by rfl) ?_
  refine ev_lstore_n (i := 3) dX8_seed_9 rfl (by decide) rfl ?_
  refine ev_aload_n (i := 0) dX8_seed_10 rfl rfl ?_
  refine ev_lload_n (i := 1) dX8_seed_11 rfl rfl ?_
  refine ev_putJ dX8_seed_12 fwX8_197 (by first | omega | decide) (by first | assumption | (simp (disch := omega) only [mu_s, mu_n]; first | assumption | rfl)) (Nat.le_of_ble_eq_true rfl) ?_
  refine ev_lload_n (i := 3) dX8_seed_15 rfl rfl ?_
  refine ev_retl dX8_seed_16 rfl ?_
  exact hp _ (ag_mu (ag_rf M0 _ _) (by omega) (by omega)) ⟨⟨e, mu_s _ _ _⟩, kR_ob (M := M0) (kR_sd hR) (ag_mu (ag_rf M0 _ _) (by omega) (by omega))⟩
end MDS
