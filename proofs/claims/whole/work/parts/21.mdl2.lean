theorem gF_cong {f g : Nat → Int32} {p : pg} (h : gF f p) (hc : ∀ j, j < 25 → f j = g j) : gF g p := by
  obtain ⟨h1, h2, h3⟩ := h
  exact ⟨fun c q => by rw [← hc c (by omega), h1 c q], fun c q => by rw [← hc _ (by omega), h2 c q], by rw [← hc 24 (by omega), h3]⟩
theorem nI_back (x : Int32) : nI x.toBitVec.toNat = x := by
  apply Int32.toBitVec_inj.mp
  show BitVec.ofNat 32 x.toBitVec.toNat = x.toBitVec
  exact (BitVec.ofNat_toNat 32 x.toBitVec).trans (by simp)
theorem gF_any (f : Nat → Int32) : ∃ p, gF f p := ⟨(fun c => (f c).toBitVec.toNat, fun c => some (f (12 + c)).toBitVec.toNat, f 24), fun c _ => (nI_back _).symm, fun c _ => (nI_back _).symm, rfl⟩
/-- all but the object -/
def kR (M : mM) (s : cs) : Prop := arr M 73 40 s.1.1 s.1.2 ∧ kML M s.2.1 ∧ kG M 79 s.2.2.1 ∧ (∃ q, kG M 80 q) ∧ kBk M s.2.2.2.1 ∧ kKp M s.2.2.2.2.1 ∧ kMV M s.2.2.2.2.2.1 ∧ kX M
section KR
variable {M M1 : mM} {t : tx} {l : lt} {p : pg} {a : List pg} {sl : Nat → Option pg} {v : ov} {sd : Int64}
theorem kR_ob {s : cs} (h : kR M s) (hg : ag M M1 72 73) : kR M1 s := by
  obtain ⟨h2, h3, h4, ⟨q, h5⟩, h6, h7, h8, h9⟩ := h
  exact ⟨arr_ag h2 hg (by omega), kML_ag h3 hg (by omega), kG_ag h4 hg (by omega), ⟨q, kG_ag h5 hg (by omega)⟩, kBk_ag h6 hg (by omega), kKp_ag h7 hg (by omega), kMV_ag h8 hg (by omega), kX_ag h9 hg (by omega)⟩
theorem kR_tx {t1 : tx} (h : kR M (t, l, p, a, sl, v, sd)) (hg : ag M M1 73 74) (hn : arr M1 73 40 t1.1 t1.2) : kR M1 (t1, l, p, a, sl, v, sd) := by
  obtain ⟨h2, h3, h4, ⟨q, h5⟩, h6, h7, h8, h9⟩ := h
  exact ⟨hn, kML_ag h3 hg (by omega), kG_ag h4 hg (by omega), ⟨q, kG_ag h5 hg (by omega)⟩, kBk_ag h6 hg (by omega), kKp_ag h7 hg (by omega), kMV_ag h8 hg (by omega), kX_ag h9 hg (by omega)⟩
theorem kR_lt {l1 : lt} (h : kR M (t, l, p, a, sl, v, sd)) (hg : ag M M1 74 78) (hn : kML M1 l1) : kR M1 (t, l1, p, a, sl, v, sd) := by
  obtain ⟨h2, h3, h4, ⟨q, h5⟩, h6, h7, h8, h9⟩ := h
  exact ⟨arr_ag h2 hg (by omega), hn, kG_ag h4 hg (by omega), ⟨q, kG_ag h5 hg (by omega)⟩, kBk_ag h6 hg (by omega), kKp_ag h7 hg (by omega), kMV_ag h8 hg (by omega), kX_ag h9 hg (by omega)⟩
theorem kR_pg {p1 : pg} (h : kR M (t, l, p, a, sl, v, sd)) (hg : ag M M1 79 80) (hn : kG M1 79 p1) : kR M1 (t, l, p1, a, sl, v, sd) := by
  obtain ⟨h2, h3, h4, ⟨q, h5⟩, h6, h7, h8, h9⟩ := h
  exact ⟨arr_ag h2 hg (by omega), kML_ag h3 hg (by omega), hn, ⟨q, kG_ag h5 hg (by omega)⟩, kBk_ag h6 hg (by omega), kKp_ag h7 hg (by omega), kMV_ag h8 hg (by omega), kX_ag h9 hg (by omega)⟩
theorem kR_tr {q1 : pg} (h : kR M (t, l, p, a, sl, v, sd)) (hg : ag M M1 80 81) (hn : kG M1 80 q1) : kR M1 (t, l, p, a, sl, v, sd) := by
  obtain ⟨h2, h3, h4, ⟨q, h5⟩, h6, h7, h8, h9⟩ := h
  exact ⟨arr_ag h2 hg (by omega), kML_ag h3 hg (by omega), kG_ag h4 hg (by omega), ⟨q1, hn⟩, kBk_ag h6 hg (by omega), kKp_ag h7 hg (by omega), kMV_ag h8 hg (by omega), kX_ag h9 hg (by omega)⟩
theorem kR_bk {a1 : List pg} (h : kR M (t, l, p, a, sl, v, sd)) (hg : ag M M1 81 82) (hn : kBk M1 a1) : kR M1 (t, l, p, a1, sl, v, sd) := by
  obtain ⟨h2, h3, h4, ⟨q, h5⟩, h6, h7, h8, h9⟩ := h
  exact ⟨arr_ag h2 hg (by omega), kML_ag h3 hg (by omega), kG_ag h4 hg (by omega), ⟨q, kG_ag h5 hg (by omega)⟩, hn, kKp_ag h7 hg (by omega), kMV_ag h8 hg (by omega), kX_ag h9 hg (by omega)⟩
theorem kR_kp {s1 : Nat → Option pg} (h : kR M (t, l, p, a, sl, v, sd)) (hg : ag M M1 82 84) (hn : kKp M1 s1) : kR M1 (t, l, p, a, s1, v, sd) := by
  obtain ⟨h2, h3, h4, ⟨q, h5⟩, h6, h7, h8, h9⟩ := h
  exact ⟨arr_ag h2 hg (by omega), kML_ag h3 hg (by omega), kG_ag h4 hg (by omega), ⟨q, kG_ag h5 hg (by omega)⟩, kBk_ag h6 hg (by omega), hn, kMV_ag h8 hg (by omega), kX_ag h9 hg (by omega)⟩
theorem kR_mv {v1 : ov} (h : kR M (t, l, p, a, sl, v, sd)) (hg : ag M M1 84 86) (hn : kMV M1 v1) : kR M1 (t, l, p, a, sl, v1, sd) := by
  obtain ⟨h2, h3, h4, ⟨q, h5⟩, h6, h7, h8, h9⟩ := h
  exact ⟨arr_ag h2 hg (by omega), kML_ag h3 hg (by omega), kG_ag h4 hg (by omega), ⟨q, kG_ag h5 hg (by omega)⟩, kBk_ag h6 hg (by omega), kKp_ag h7 hg (by omega), hn, kX_ag h9 hg (by omega)⟩
theorem kR_sd {sd1 : Int64} (h : kR M (t, l, p, a, sl, v, sd)) : kR M (t, l, p, a, sl, v, sd1) := h
end KR
section MDR
variable {M : mM} {P : Option Value → mM → Prop} {s : cs}
theorem m_thr {d : Nat} {μ : mI} {X : mX} {r : List Value} (d0 : decode μ.2.1 0 = .ok (.aload_n 0, 1)) (d1 : decode μ.2.1 1 = .ok (.iconst 0, 1)) (d2 : decode μ.2.1 2 = .ok (.putfield 60, 3)) (hc : e_fldw μ.1.cls 60 8 0 .int) (h : kM M s) (k : ∀ M1, ag M M1 72 73 → kM M1 s → Ev 88 d μ X 5 (.ref 72 :: r) [] M1 P) : Ev 88 d μ X 0 (.ref 72 :: r) [] M P := by
  obtain ⟨⟨e, x0⟩, hR⟩ := h
  unfold kO at x0
  refine ev_aload_n (i := 0) d0 rfl rfl ?_
  refine ev_iconst (v := nI 0) d1 rfl ?_
  refine ev_putI d2 hc (by decide) x0 (Nat.le_of_ble_eq_true rfl) ?_
  have ha : ag M (mu M 72 (.inr (8, [.int (nI 0), .ref 73, .int (nI s.1.1), .int (e 1), .int (nI s.2.1.1), .ref 74, .ref 75, .ref 76, .ref 77, .int (e 2), .ref 78, .ref 79, .ref 80, .ref 81, .int (nI s.2.2.2.1.length), .ref 82, .ref 83, .int (nI s.2.2.2.2.2.1.1), .ref 84, .ref 85, .long s.2.2.2.2.2.2, .int (e 3), .int (e 4), .int (e 5), .int (e 6), .ref 86, .ref 87]))) 72 73 := ag_mu (ag_rf M _ _) (by omega) (by omega)
  exact k _ ha ⟨⟨fun i => if i = 0 then nI 0 else e i, mu_s _ _ _⟩, kR_ob hR ha⟩

theorem R_write {x : Int32} (h : kM M s) (ho : cOk s) (hp : ∀ M1, ag M M1 72 88 → kM M1 (n_write s x) → P (some (.int (a_write s x))) M1) : Ev 88 7 mX8_write none 0 [.ref 72, .int x] [] M P := by
  refine m_thr dX8_write_0 dX8_write_1 dX8_write_2 fwX8_60 h (fun M0 a0 h => ?_)
  replace hp : ∀ M1, ag M0 M1 72 88 → kM M1 (n_write s x) → P (some (.int (a_write s x))) M1 := fun M1 ha hk => hp M1 (ag_tr (ag_wd a0 : ag M M0 72 88) ha) hk
  clear a0
  obtain ⟨t, l, p, a, sl, v, sd⟩ := s
  obtain ⟨⟨e, x0⟩, hR⟩ := id h
  obtain ⟨h1, h2, h3, h11, h4, h5, h6, h7⟩ : arr M0 73 40 t.1 t.2 ∧ kML M0 l ∧ kG M0 79 p ∧ (∃ q, kG M0 80 q) ∧ kBk M0 a ∧ kKp M0 sl ∧ kMV M0 v ∧ kX M0 := id hR
  obtain ⟨o1, o2, o3, o4, o5, o6, o7⟩ : txOk t ∧ ltOk l ∧ pgOk p ∧ (∀ q ∈ a, pgOk q) ∧ a.length ≤ 14 ∧ (∀ i q, sl i = some q → pgOk q) ∧ ovOk v := ho
  have hO : kO M0 e t.1 l.1 a.length v.1 sd := x0
  have hl6 := o2.1
  have hv6 := o7.1
  unfold kO at x0
  obtain ⟨f, g1, g2⟩ := h1
  have ht := o1.1
  cases hx : inR x 256 with
  | true =>
    obtain ⟨j, hj, rfl⟩ := inR_of hx (by decide)
    by_cases h40 : t.1 < 40
    · have e1 : a_write (t, l, p, a, sl, v, sd) (nI j) = nI (t.1 + 1) := by unfold a_write; rw [if_pos hx, if_pos h40]
      have e2 : n_write (t, l, p, a, sl, v, sd) (nI j) = (txAdd t j, l, p, a, sl, v, sd) := by unfold n_write; rw [if_pos ⟨hx, h40⟩, n_cl (by omega)]
      rw [e1, e2] at hp
      have hx1 : inR (nI j) 256 = true := hx
      refine ev_iload_n (i := 1) dX8_write_5 rfl rfl ?_
      refine ev_i2l dX8_write_6 rfl ?_
      refine ev_lconst dX8_write_7 rfl ?_
      refine ev_ldc2_w dX8_write_8 kX8_73 ?_
      refine ev_S3 (μ1 := mX8_in) dX8_write_11 sX8_67 okX8_in (Nat.le_of_ble_eq_true rfl) (Nat.le_of_ble_eq_true rfl) ?_
      refine c_in ?_
      refine ev_top (i_op (congrArg bI ((in_r (n := 256) rfl).trans hx))) ?_
      refine ev_if_neB 20 dX8_write_14 (by decide) (fun b14 => ?_) (fun b14 => by cases b14)
      refine ev_aload_n (i := 0) dX8_write_20 rfl rfl ?_
      refine ev_getfield dX8_write_21 fX8_75 (by first | omega | decide) (by first | assumption | (simp (disch := omega) only [mu_s, mu_n]; first | assumption | rfl)) (by rfl) ?_
      refine ev_bipush (v := nI 40) dX8_write_24 rfl ?_
      refine ev_icmp_neN 32 dX8_write_26 (by decide) (by omega) (by omega) (fun b26 => ?_) (fun b26 => by exfalso; omega)
      refine ev_aload_n (i := 0) dX8_write_32 rfl rfl ?_
      refine ev_getfield dX8_write_33 fX8_7 (by first | omega | decide) (by first | assumption | (simp (disch := omega) only [mu_s, mu_n]; first | assumption | rfl)) (by rfl) ?_
      refine ev_aload_n (i := 0) dX8_write_36 rfl rfl ?_
      refine ev_getfield dX8_write_37 fX8_75 (by first | omega | decide) (by first | assumption | (simp (disch := omega) only [mu_s, mu_n]; first | assumption | rfl)) (by rfl) ?_
      refine ev_iload_n (i := 1) dX8_write_40 rfl rfl ?_
      refine ev_iastoreN dX8_write_41 (by first | omega | decide) (by first | assumption | (simp (disch := omega) only [mu_s, mu_n]; first | assumption | rfl)) (by omega) (by decide) ?_
      refine ev_aload_n (i := 0) dX8_write_42 rfl rfl ?_
      refine ev_dup dX8_write_43 rfl ?_
      refine ev_getfield dX8_write_44 fX8_75 (by first | omega | decide) (by first | assumption | (simp (disch := omega) only [mu_s, mu_n]; first | assumption | rfl)) (by rfl) ?_
      refine ev_iconst (v := nI 1) dX8_write_47 rfl ?_
      refine ev_iaddN dX8_write_48 ?_
      refine ev_putI dX8_write_49 fwX8_75 (by first | omega | decide) (by first | assumption | (simp (disch := omega) only [mu_s, mu_n]; first | assumption | rfl)) (Nat.le_of_ble_eq_true rfl) ?_
      refine ev_aload_n (i := 0) dX8_write_52 rfl rfl ?_
      refine ev_getfield dX8_write_53 fX8_75 (by first | omega | decide) (by first | assumption | (simp (disch := omega) only [mu_s, mu_n]; first | assumption | rfl)) (by rfl) ?_
      refine ev_reti dX8_write_56 rfl rfl ?_
      refine hp _ (ag_mu (ag_mu (ag_rf M0 _ _) (by omega) (by omega)) (by omega) (by omega)) ⟨⟨e, mu_s _ _ _⟩, kR_ob (kR_tx (t1 := txAdd t j) hR (ag_mu (ag_rf M0 _ _) (by omega) (by omega)) ?_) (ag_mu (ag_rf _ _ _) (by omega) (by omega))⟩
      refine arr_sn (mu_s _ _ _) (fun i hi => ?_) (if_pos rfl)
      rw [g2 i hi]; unfold txAdd; simp only []; rw [if_neg (by omega)]
    · have e1 : a_write (t, l, p, a, sl, v, sd) (nI j) = (-4) := by unfold a_write; rw [if_pos hx, if_neg h40]
      have e2 : n_write (t, l, p, a, sl, v, sd) (nI j) = (t, l, p, a, sl, v, sd) := by unfold n_write; rw [if_neg (fun z => h40 z.2)]
      rw [e1, e2] at hp
      refine ev_iload_n (i := 1) dX8_write_5 rfl rfl ?_
      refine ev_i2l dX8_write_6 rfl ?_
      refine ev_lconst dX8_write_7 rfl ?_
      refine ev_ldc2_w dX8_write_8 kX8_73 ?_
      refine ev_S3 (μ1 := mX8_in) dX8_write_11 sX8_67 okX8_in (Nat.le_of_ble_eq_true rfl) (Nat.le_of_ble_eq_true rfl) ?_
      refine c_in ?_
      refine ev_top (i_op (congrArg bI ((in_r (n := 256) rfl).trans hx))) ?_
      refine ev_if_neB 20 dX8_write_14 (by decide) (fun b14 => ?_) (fun b14 => by cases b14)
      refine ev_aload_n (i := 0) dX8_write_20 rfl rfl ?_
      refine ev_getfield dX8_write_21 fX8_75 (by first | omega | decide) (by first | assumption | (simp (disch := omega) only [mu_s, mu_n]; first | assumption | rfl)) (by rfl) ?_
      refine ev_bipush (v := nI 40) dX8_write_24 rfl ?_
      refine ev_icmp_neN 32 dX8_write_26 (by decide) (by omega) (by omega) (fun b26 => by exfalso; omega) (fun b26 => ?_)
      refine ev_bipush (v := (-4)) dX8_write_29 rfl ?_
      refine ev_reti dX8_write_31 rfl rfl ?_
      exact hp M0 (ag_rf M0 _ _) h
  | false =>
    have e1 : a_write (t, l, p, a, sl, v, sd) x = (-2) := by unfold a_write; rw [hx]; rfl
    have e2 : n_write (t, l, p, a, sl, v, sd) x = (t, l, p, a, sl, v, sd) := by unfold n_write; rw [if_neg (fun z => by rw [hx] at z; cases z.1)]
    rw [e1, e2] at hp
    refine ev_iload_n (i := 1) dX8_write_5 rfl rfl ?_
    refine ev_i2l dX8_write_6 rfl ?_
    refine ev_lconst dX8_write_7 rfl ?_
    refine ev_ldc2_w dX8_write_8 kX8_73 ?_
    refine ev_S3 (μ1 := mX8_in) dX8_write_11 sX8_67 okX8_in (Nat.le_of_ble_eq_true rfl) (Nat.le_of_ble_eq_true rfl) ?_
    refine c_in ?_
    refine ev_top (i_op (congrArg bI ((in_r (n := 256) rfl).trans hx))) ?_
    refine ev_if_neB 20 dX8_write_14 (by decide) (fun b14 => by cases b14) (fun b14 => ?_)
    refine ev_bipush (v := (-2)) dX8_write_17 rfl ?_
    refine ev_reti dX8_write_19 rfl rfl ?_
    exact hp M0 (ag_rf M0 _ _) h
theorem R_wipe (h : kM M s) (ho : cOk s) (hp : ∀ M1, ag M M1 72 88 → kM M1 (n_wipe s) → P (some (.int (nI s.1.1))) M1) : Ev 88 7 mX8_wipe none 0 [.ref 72, .null] [] M P := by
  refine m_thr dX8_wipe_0 dX8_wipe_1 dX8_wipe_2 fwX8_60 h (fun M0 a0 h => ?_)
  replace hp : ∀ M1, ag M0 M1 72 88 → kM M1 (n_wipe s) → P (some (.int (nI s.1.1))) M1 := fun M1 ha hk => hp M1 (ag_tr (ag_wd a0 : ag M M0 72 88) ha) hk
  clear a0
  obtain ⟨t, l, p, a, sl, v, sd⟩ := s
  obtain ⟨⟨e, x0⟩, hR⟩ := id h
  obtain ⟨h1, h2, h3, h11, h4, h5, h6, h7⟩ : arr M0 73 40 t.1 t.2 ∧ kML M0 l ∧ kG M0 79 p ∧ (∃ q, kG M0 80 q) ∧ kBk M0 a ∧ kKp M0 sl ∧ kMV M0 v ∧ kX M0 := id hR
  obtain ⟨o1, o2, o3, o4, o5, o6, o7⟩ : txOk t ∧ ltOk l ∧ pgOk p ∧ (∀ q ∈ a, pgOk q) ∧ a.length ≤ 14 ∧ (∀ i q, sl i = some q → pgOk q) ∧ ovOk v := ho
  have hO : kO M0 e t.1 l.1 a.length v.1 sd := x0
  have hl6 := o2.1
  have hv6 := o7.1
  unfold kO at x0
  obtain ⟨f, g1, g2⟩ := h1
  refine ev_aload_n (i := 0) dX8_wipe_5 rfl rfl ?_
  refine ev_getfield dX8_wipe_6 fX8_75 (by first | omega | decide) (by first | assumption | (simp (disch := omega) only [mu_s, mu_n]; first | assumption | rfl)) (by rfl) ?_
  refine ev_istore_n (i := 1) dX8_wipe_9 rfl (by decide) rfl ?_
  refine ev_aload_n (i := 0) dX8_wipe_10 rfl rfl ?_
  refine ev_iconst (v := nI 0) dX8_wipe_11 rfl ?_
  refine ev_putI dX8_wipe_12 fwX8_75 (by first | omega | decide) (by first | assumption | (simp (disch := omega) only [mu_s, mu_n]; first | assumption | rfl)) (Nat.le_of_ble_eq_true rfl) ?_
  refine ev_iload_n (i := 1) dX8_wipe_15 rfl rfl ?_
  refine ev_reti dX8_wipe_16 rfl rfl ?_
  exact hp _ (ag_mu (ag_rf M0 _ _) (by omega) (by omega)) ⟨⟨e, mu_s _ _ _⟩, kR_ob (M := M0) (kR_tx (t1 := (0, t.2)) hR (ag_rf M0 _ _) ⟨f, g1, fun j hj => absurd hj (Nat.not_lt_zero j)⟩) (ag_mu (ag_rf M0 _ _) (by omega) (by omega))⟩
theorem R_later {x : Int32} (h : kM M s) (ho : cOk s) (hp : ∀ M1, ag M M1 72 88 → kM M1 (s) → P (some (.int (a_later s x))) M1) : Ev 88 7 mX8_later none 0 [.ref 72, .int x] [] M P := by
  refine m_thr dX8_later_0 dX8_later_1 dX8_later_2 fwX8_60 h (fun M0 a0 h => ?_)
  replace hp : ∀ M1, ag M0 M1 72 88 → kM M1 (s) → P (some (.int (a_later s x))) M1 := fun M1 ha hk => hp M1 (ag_tr (ag_wd a0 : ag M M0 72 88) ha) hk
  clear a0
  obtain ⟨t, l, p, a, sl, v, sd⟩ := s
  obtain ⟨⟨e, x0⟩, hR⟩ := id h
  obtain ⟨h1, h2, h3, h11, h4, h5, h6, h7⟩ : arr M0 73 40 t.1 t.2 ∧ kML M0 l ∧ kG M0 79 p ∧ (∃ q, kG M0 80 q) ∧ kBk M0 a ∧ kKp M0 sl ∧ kMV M0 v ∧ kX M0 := id hR
  obtain ⟨o1, o2, o3, o4, o5, o6, o7⟩ : txOk t ∧ ltOk l ∧ pgOk p ∧ (∀ q ∈ a, pgOk q) ∧ a.length ≤ 14 ∧ (∀ i q, sl i = some q → pgOk q) ∧ ovOk v := ho
  have hO : kO M0 e t.1 l.1 a.length v.1 sd := x0
  have hl6 := o2.1
  have hv6 := o7.1
  unfold kO at x0
  unfold a_later at hp
  cases hx : inR x 10 with
  | true =>
    rw [if_pos hx] at hp
    obtain ⟨j, hj, rfl⟩ := inR_of hx (by decide)
    rw [n_cl (by omega)] at hp
    refine ev_iload_n (i := 1) dX8_later_5 rfl rfl ?_
    refine ev_i2l dX8_later_6 rfl ?_
    refine ev_lconst dX8_later_7 rfl ?_
    refine ev_ldc2_w dX8_later_8 kX8_133 ?_
    refine ev_S3 (μ1 := mX8_in) dX8_later_11 sX8_67 okX8_in (Nat.le_of_ble_eq_true rfl) (Nat.le_of_ble_eq_true rfl) ?_
    refine c_in ?_
    refine ev_top (i_op (congrArg bI ((in_r (n := 10) rfl).trans hx))) ?_
    refine ev_if_eqB 25 dX8_later_14 (by decide) (fun b14 => by cases b14) (fun b14 => ?_)
    refine ev_aload_n (i := 0) dX8_later_17 rfl rfl ?_
    refine ev_iload_n (i := 1) dX8_later_18 rfl rfl ?_
    refine ev_V1 (μ1 := mX8_shownIn) dX8_later_19 sX8_135 okX8_shownIn (by first | omega | decide) (by first | assumption | (simp (disch := omega) only [mu_s, mu_n]; first | assumption | rfl)) (Nat.le_of_ble_eq_true rfl) (Nat.le_of_ble_eq_true rfl) ?_
    refine c_mShownIn hO h3 o3 (by omega) ?_
    refine ev_goto 27 dX8_later_22 (by decide) ?_
    refine ev_reti dX8_later_27 rfl rfl ?_
    exact hp M0 (ag_rf M0 _ _) h
  | false =>
    rw [hx, if_neg (by decide)] at hp
    refine ev_iload_n (i := 1) dX8_later_5 rfl rfl ?_
    refine ev_i2l dX8_later_6 rfl ?_
    refine ev_lconst dX8_later_7 rfl ?_
    refine ev_ldc2_w dX8_later_8 kX8_133 ?_
    refine ev_S3 (μ1 := mX8_in) dX8_later_11 sX8_67 okX8_in (Nat.le_of_ble_eq_true rfl) (Nat.le_of_ble_eq_true rfl) ?_
    refine c_in ?_
    refine ev_top (i_op (congrArg bI ((in_r (n := 10) rfl).trans hx))) ?_
    refine ev_if_eqB 25 dX8_later_14 (by decide) (fun b14 => ?_) (fun b14 => by cases b14)
    refine ev_bipush (v := (-2)) dX8_later_25 rfl ?_
    refine ev_reti dX8_later_27 rfl rfl ?_
    exact hp M0 (ag_rf M0 _ _) h
theorem in_e : ∀ n, n < 7 → ((nI (2 ^ n - 1)).toInt64).toInt = ((2 ^ n : Nat) : Int) - 1 := by decide +kernel
theorem pw_64 {n : Nat} (h : n ≤ 6) : 2 ^ n ≤ 64 := pw_le h
theorem R_shows {x : Int32} (h : kM M s) (ho : cOk s) (hp : ∀ M1, ag M M1 72 88 → kM M1 (s) → P (some (.int (a_shows s x))) M1) : Ev 88 7 mX8_shows none 0 [.ref 72, .int x] [] M P := by
  refine m_thr dX8_shows_0 dX8_shows_1 dX8_shows_2 fwX8_60 h (fun M0 a0 h => ?_)
  replace hp : ∀ M1, ag M0 M1 72 88 → kM M1 (s) → P (some (.int (a_shows s x))) M1 := fun M1 ha hk => hp M1 (ag_tr (ag_wd a0 : ag M M0 72 88) ha) hk
  clear a0
  obtain ⟨t, l, p, a, sl, v, sd⟩ := s
  obtain ⟨⟨e, x0⟩, hR⟩ := id h
  obtain ⟨h1, h2, h3, h11, h4, h5, h6, h7⟩ : arr M0 73 40 t.1 t.2 ∧ kML M0 l ∧ kG M0 79 p ∧ (∃ q, kG M0 80 q) ∧ kBk M0 a ∧ kKp M0 sl ∧ kMV M0 v ∧ kX M0 := id hR
  obtain ⟨o1, o2, o3, o4, o5, o6, o7⟩ : txOk t ∧ ltOk l ∧ pgOk p ∧ (∀ q ∈ a, pgOk q) ∧ a.length ≤ 14 ∧ (∀ i q, sl i = some q → pgOk q) ∧ ovOk v := ho
  have hO : kO M0 e t.1 l.1 a.length v.1 sd := x0
  have hl6 := o2.1
  have hv6 := o7.1
  unfold kO at x0
  unfold a_shows at hp
  have h64 := pw_64 hl6
  cases hx : inR x (2 ^ l.1) with
  | true =>
    rw [if_pos hx] at hp
    obtain ⟨j, hj, rfl⟩ := inR_of hx (by omega)
    rw [n_cl (by omega)] at hp
    refine ev_iload_n (i := 1) dX8_shows_5 rfl rfl ?_
    refine ev_i2l dX8_shows_6 rfl ?_
    refine ev_lconst dX8_shows_7 rfl ?_
    refine ev_aload_n (i := 0) dX8_shows_8 rfl rfl ?_
    refine ev_V0 (μ1 := mX8_everyone) dX8_shows_9 sX8_138 okX8_everyone (by first | omega | decide) (by first | assumption | (simp (disch := omega) only [mu_s, mu_n]; first | assumption | rfl)) (Nat.le_of_ble_eq_true rfl) (Nat.le_of_ble_eq_true rfl) ?_
    refine c_everyone hO hl6 ?_
    refine ev_i2l dX8_shows_12 rfl ?_
    refine ev_S3 (μ1 := mX8_in) dX8_shows_13 sX8_67 okX8_in (Nat.le_of_ble_eq_true rfl) (Nat.le_of_ble_eq_true rfl) ?_
    refine c_in ?_
    refine ev_top (i_op (congrArg bI ((in_r (n := 2 ^ l.1) (in_e l.1 (by omega))).trans hx))) ?_
    refine ev_if_eqB 27 dX8_shows_16 (by decide) (fun b16 => by cases b16) (fun b16 => ?_)
    refine ev_aload_n (i := 0) dX8_shows_19 rfl rfl ?_
    refine ev_iload_n (i := 1) dX8_shows_20 rfl rfl ?_
    refine ev_V1 (μ1 := mX8_showsBy) dX8_shows_21 sX8_141 okX8_showsBy (by first | omega | decide) (by first | assumption | (simp (disch := omega) only [mu_s, mu_n]; first | assumption | rfl)) (Nat.le_of_ble_eq_true rfl) (Nat.le_of_ble_eq_true rfl) ?_
    refine c_mShowsBy hO h2 o2 (by omega) ?_
    refine ev_goto 29 dX8_shows_24 (by decide) ?_
    refine ev_reti dX8_shows_29 rfl rfl ?_
    exact hp M0 (ag_rf M0 _ _) h
  | false =>
    rw [hx, if_neg (by decide)] at hp
    refine ev_iload_n (i := 1) dX8_shows_5 rfl rfl ?_
    refine ev_i2l dX8_shows_6 rfl ?_
    refine ev_lconst dX8_shows_7 rfl ?_
    refine ev_aload_n (i := 0) dX8_shows_8 rfl rfl ?_
    refine ev_V0 (μ1 := mX8_everyone) dX8_shows_9 sX8_138 okX8_everyone (by first | omega | decide) (by first | assumption | (simp (disch := omega) only [mu_s, mu_n]; first | assumption | rfl)) (Nat.le_of_ble_eq_true rfl) (Nat.le_of_ble_eq_true rfl) ?_
    refine c_everyone hO hl6 ?_
    refine ev_i2l dX8_shows_12 rfl ?_
    refine ev_S3 (μ1 := mX8_in) dX8_shows_13 sX8_67 okX8_in (Nat.le_of_ble_eq_true rfl) (Nat.le_of_ble_eq_true rfl) ?_
    refine c_in ?_
    refine ev_top (i_op (congrArg bI ((in_r (n := 2 ^ l.1) (in_e l.1 (by omega))).trans hx))) ?_
    refine ev_if_eqB 27 dX8_shows_16 (by decide) (fun b16 => ?_) (fun b16 => by cases b16)
    refine ev_bipush (v := (-2)) dX8_shows_27 rfl ?_
    refine ev_reti dX8_shows_29 rfl rfl ?_
    exact hp M0 (ag_rf M0 _ _) h
theorem R_cell {x y : Int32} (h : kM M s) (ho : cOk s) (hp : ∀ M1, ag M M1 72 88 → kM M1 (s) → P (some (.int (a_cell s x y))) M1) : Ev 88 7 mX8_cell none 0 [.ref 72, .int x, .int y] [] M P := by
  refine m_thr dX8_cell_0 dX8_cell_1 dX8_cell_2 fwX8_60 h (fun M0 a0 h => ?_)
  replace hp : ∀ M1, ag M0 M1 72 88 → kM M1 (s) → P (some (.int (a_cell s x y))) M1 := fun M1 ha hk => hp M1 (ag_tr (ag_wd a0 : ag M M0 72 88) ha) hk
  clear a0
  obtain ⟨t, l, p, a, sl, v, sd⟩ := s
  obtain ⟨⟨e, x0⟩, hR⟩ := id h
  obtain ⟨h1, h2, h3, h11, h4, h5, h6, h7⟩ : arr M0 73 40 t.1 t.2 ∧ kML M0 l ∧ kG M0 79 p ∧ (∃ q, kG M0 80 q) ∧ kBk M0 a ∧ kKp M0 sl ∧ kMV M0 v ∧ kX M0 := id hR
  obtain ⟨o1, o2, o3, o4, o5, o6, o7⟩ : txOk t ∧ ltOk l ∧ pgOk p ∧ (∀ q ∈ a, pgOk q) ∧ a.length ≤ 14 ∧ (∀ i q, sl i = some q → pgOk q) ∧ ovOk v := ho
  have hO : kO M0 e t.1 l.1 a.length v.1 sd := x0
  have hl6 := o2.1
  have hv6 := o7.1
  unfold kO at x0
  unfold a_cell at hp
  obtain ⟨f, y1, y2, y3, y4⟩ := id h3
  cases hx : inR x 12 with
  | true =>
    rw [if_pos hx] at hp
    obtain ⟨c, hc, rfl⟩ := inR_of hx (by decide)
    rw [n_cl (by omega)] at hp
    cases hy : inR y 2 with
    | true =>
      rw [if_pos hy] at hp
      obtain ⟨j, hj, rfl⟩ := inR_of hy (by decide)
      rw [n_cl (by omega)] at hp
      rcases (show j = 0 ∨ j = 1 by omega) with rfl | rfl
      · skip
        refine ev_iload_n (i := 1) dX8_cell_5 rfl rfl ?_
        refine ev_S1 (μ1 := mX8_noCell) dX8_cell_6 sX8_117 okX8_noCell (Nat.le_of_ble_eq_true rfl) (Nat.le_of_ble_eq_true rfl) ?_
        refine c_noCell ?_
        refine ev_top (i_op (congrArg bI ((congrArg Bool.not hx).trans rfl : (!inR (nI c) 12) = false))) ?_
        refine ev_if_neB 22 dX8_cell_9 (by decide) (fun b9 => by cases b9) (fun b9 => ?_)
        refine ev_iload_n (i := 2) dX8_cell_12 rfl rfl ?_
        refine ev_i2l dX8_cell_13 rfl ?_
        refine ev_lconst dX8_cell_14 rfl ?_
        refine ev_lconst dX8_cell_15 rfl ?_
        refine ev_S3 (μ1 := mX8_in) dX8_cell_16 sX8_67 okX8_in (Nat.le_of_ble_eq_true rfl) (Nat.le_of_ble_eq_true rfl) ?_
        refine c_in ?_
        refine ev_top (i_op (congrArg bI ((in_r (n := 2) rfl).trans hy))) ?_
        refine ev_if_neB 27 dX8_cell_19 (by decide) (fun b19 => ?_) (fun b19 => by cases b19)
        refine ev_iload_n (i := 2) dX8_cell_27 rfl rfl ?_
        refine ev_if_neN 42 dX8_cell_28 (by decide) (by omega) (fun b28 => by exfalso; omega) (fun b28 => ?_)
        refine ev_aload_n (i := 0) dX8_cell_31 rfl rfl ?_
        refine ev_getfield dX8_cell_32 fX8_28 (by first | omega | decide) (by first | assumption | (simp (disch := omega) only [mu_s, mu_n]; first | assumption | rfl)) (by rfl) ?_
        refine ev_iconst (v := nI 0) dX8_cell_35 rfl ?_
        refine ev_iload_n (i := 1) dX8_cell_36 rfl rfl ?_
        refine ev_iaddN dX8_cell_37 ?_
        refine ev_ialoadN dX8_cell_38 (by first | omega | decide) (by first | assumption | (simp (disch := omega) only [mu_s, mu_n]; first | assumption | rfl)) (by omega) (by decide) ?_
        refine ev_goto 51 dX8_cell_39 (by decide) ?_
        refine ev_reti dX8_cell_51 rfl rfl ?_
        rw [Nat.zero_add, y2 c hc]; exact hp M0 (ag_rf M0 _ _) h
      · skip
        refine ev_iload_n (i := 1) dX8_cell_5 rfl rfl ?_
        refine ev_S1 (μ1 := mX8_noCell) dX8_cell_6 sX8_117 okX8_noCell (Nat.le_of_ble_eq_true rfl) (Nat.le_of_ble_eq_true rfl) ?_
        refine c_noCell ?_
        refine ev_top (i_op (congrArg bI ((congrArg Bool.not hx).trans rfl : (!inR (nI c) 12) = false))) ?_
        refine ev_if_neB 22 dX8_cell_9 (by decide) (fun b9 => by cases b9) (fun b9 => ?_)
        refine ev_iload_n (i := 2) dX8_cell_12 rfl rfl ?_
        refine ev_i2l dX8_cell_13 rfl ?_
        refine ev_lconst dX8_cell_14 rfl ?_
        refine ev_lconst dX8_cell_15 rfl ?_
        refine ev_S3 (μ1 := mX8_in) dX8_cell_16 sX8_67 okX8_in (Nat.le_of_ble_eq_true rfl) (Nat.le_of_ble_eq_true rfl) ?_
        refine c_in ?_
        refine ev_top (i_op (congrArg bI ((in_r (n := 2) rfl).trans hy))) ?_
        refine ev_if_neB 27 dX8_cell_19 (by decide) (fun b19 => ?_) (fun b19 => by cases b19)
        refine ev_iload_n (i := 2) dX8_cell_27 rfl rfl ?_
        refine ev_if_neN 42 dX8_cell_28 (by decide) (by omega) (fun b28 => ?_) (fun b28 => by exfalso; omega)
        refine ev_aload_n (i := 0) dX8_cell_42 rfl rfl ?_
        refine ev_getfield dX8_cell_43 fX8_28 (by first | omega | decide) (by first | assumption | (simp (disch := omega) only [mu_s, mu_n]; first | assumption | rfl)) (by rfl) ?_
        refine ev_bipush (v := nI 12) dX8_cell_46 rfl ?_
        refine ev_iload_n (i := 1) dX8_cell_48 rfl rfl ?_
        refine ev_iaddN dX8_cell_49 ?_
        refine ev_ialoadN dX8_cell_50 (by first | omega | decide) (by first | assumption | (simp (disch := omega) only [mu_s, mu_n]; first | assumption | rfl)) (by omega) (by decide) ?_
        refine ev_reti dX8_cell_51 rfl rfl ?_
        rw [y3 c hc]; exact hp M0 (ag_rf M0 _ _) h
    | false =>
      rw [hy, if_neg (by decide)] at hp
      refine ev_iload_n (i := 1) dX8_cell_5 rfl rfl ?_
      refine ev_S1 (μ1 := mX8_noCell) dX8_cell_6 sX8_117 okX8_noCell (Nat.le_of_ble_eq_true rfl) (Nat.le_of_ble_eq_true rfl) ?_
      refine c_noCell ?_
      refine ev_top (i_op (congrArg bI ((congrArg Bool.not hx).trans rfl : (!inR (nI c) 12) = false))) ?_
      refine ev_if_neB 22 dX8_cell_9 (by decide) (fun b9 => by cases b9) (fun b9 => ?_)
      refine ev_iload_n (i := 2) dX8_cell_12 rfl rfl ?_
      refine ev_i2l dX8_cell_13 rfl ?_
      refine ev_lconst dX8_cell_14 rfl ?_
      refine ev_lconst dX8_cell_15 rfl ?_
      refine ev_S3 (μ1 := mX8_in) dX8_cell_16 sX8_67 okX8_in (Nat.le_of_ble_eq_true rfl) (Nat.le_of_ble_eq_true rfl) ?_
      refine c_in ?_
      refine ev_top (i_op (congrArg bI ((in_r (n := 2) rfl).trans hy))) ?_
      refine ev_if_neB 27 dX8_cell_19 (by decide) (fun b19 => by cases b19) (fun b19 => ?_)
      refine ev_bipush (v := (-2)) dX8_cell_22 rfl ?_
      refine ev_goto 51 dX8_cell_24 (by decide) ?_
      refine ev_reti dX8_cell_51 rfl rfl ?_
      exact hp M0 (ag_rf M0 _ _) h
  | false =>
    rw [hx, if_neg (by decide)] at hp
    refine ev_iload_n (i := 1) dX8_cell_5 rfl rfl ?_
    refine ev_S1 (μ1 := mX8_noCell) dX8_cell_6 sX8_117 okX8_noCell (Nat.le_of_ble_eq_true rfl) (Nat.le_of_ble_eq_true rfl) ?_
    refine c_noCell ?_
    refine ev_top (i_op (congrArg bI ((congrArg Bool.not hx).trans rfl : (!inR x 12) = true))) ?_
    refine ev_if_neB 22 dX8_cell_9 (by decide) (fun b9 => ?_) (fun b9 => by cases b9)
    refine ev_bipush (v := (-2)) dX8_cell_22 rfl ?_
    refine ev_goto 51 dX8_cell_24 (by decide) ?_
    refine ev_reti dX8_cell_51 rfl rfl ?_
    exact hp M0 (ag_rf M0 _ _) h
/-- an act is written down -/
theorem c_note {d : Nat} {e : Nat → Int32} {t : tx} {l : lt} {p : pg} {a : List pg} {sl : Nat → Option pg} {v : ov} {sd : Int64} (hO : kO M e t.1 l.1 a.length v.1 sd) (hR : kR M (t, l, p, a, sl, v, sd)) (h14 : a.length ≤ 14) (hp : ∀ M1, ag M M1 72 88 → kO M1 e t.1 l.1 (actsAdd a p).length v.1 sd → kR M1 (t, l, p, actsAdd a p, sl, v, sd) → P none M1) : Ev 88 d mX8_note none 0 [.ref 72, .null] [] M P := by
  obtain ⟨f, f1, f2⟩ := hR.2.2.2.2.1
  obtain ⟨g, g1, g2⟩ := hR.2.2.1
  have cp : ∀ (b : List pg) (f0 : Nat → Int32), b ++ [p] = actsAdd a p → b.length < 14 → (∀ i q, b[i]? = some q → gF (fun j => f0 (25 * i + j)) q) → ∀ (j c : Nat) (M1 : mM) (f3 : Nat → Int32), c + j = 25 → ag M M1 72 88 → kO M1 e t.1 l.1 b.length v.1 sd → kR M1 (t, l, p, [], sl, v, sd) → M1 79 = .inl (0, 25, .inl g) → M1 81 = .inl (0, 350, .inl f3) → (∀ i, i < 25 * b.length → f3 i = f0 i) → (∀ i, i < c → f3 (25 * b.length + i) = g i) → Ev 88 d mX8_note none 51 [.ref 72, .int (nI c)] [] M1 P := by
    intro b f0 hb hb14 hf0 j
    induction j with
    | zero =>
      intro c M1 f3 hc ha yO yR y1 y2 e1 e2
      obtain rfl : c = 25 := by omega
      have x0 := yO
      unfold kO at x0
      have hl : (actsAdd a p).length = b.length + 1 := by rw [← hb, List.length_append]; rfl
      refine ev_iload_n (i := 1) dX8_note_51 rfl rfl ?_
      refine ev_bipush (v := nI 25) dX8_note_52 rfl ?_
      refine ev_icmp_geN 83 dX8_note_54 (by decide) (by omega) (by omega) (fun b54 => ?_) (fun b54 => by exfalso; omega)
      refine ev_aload_n (i := 0) dX8_note_83 rfl rfl ?_
      refine ev_dup dX8_note_84 rfl ?_
      refine ev_getfield dX8_note_85 fX8_92 (by first | omega | decide) (by first | assumption | (simp (disch := omega) only [mu_s, mu_n]; first | assumption | rfl)) (by rfl) ?_
      refine ev_iconst (v := nI 1) dX8_note_88 rfl ?_
      refine ev_iaddN dX8_note_89 ?_
      refine ev_putI dX8_note_90 fwX8_92 (by first | omega | decide) (by first | assumption | (simp (disch := omega) only [mu_s, mu_n]; first | assumption | rfl)) (Nat.le_of_ble_eq_true rfl) ?_
      refine ev_ret0 dX8_note_93 rfl ?_
      rw [hl, ← hb] at hp
      refine hp _ (ag_mu ha (by omega) (by omega)) (mu_s _ _ _) (kR_ob (kR_bk (a1 := b ++ [p]) yR (ag_rf M1 _ _) ⟨f3, y2, fun i q hq => ?_⟩) (ag_mu (ag_rf M1 _ _) (by omega) (by omega)))
      rcases Nat.lt_or_ge i b.length with hi | hi
      · rw [List.getElem?_append_left hi] at hq
        exact gF_cong (hf0 i q hq) (fun j hj => (e1 _ (by omega)).symm)
      · rw [List.getElem?_append_right hi] at hq
        have hi2 : i - b.length = 0 := by
          rcases Nat.eq_zero_or_pos (i - b.length) with z | z
          · exact z
          · rw [List.getElem?_eq_none (show [p].length ≤ i - b.length from z)] at hq; cases hq
        rw [hi2] at hq
        cases hq
        obtain rfl : i = b.length := by omega
        exact gF_cong g2 (fun j hj => (e2 j (by omega)).symm)
    | succ j ih =>
      intro c M1 f3 hc ha yO yR y1 y2 e1 e2
      have x0 := yO
      unfold kO at x0
      have eA : ag M1 (mu M1 81 (.inl (0, 350, .inl (upd f3 (25 * b.length + c) (g c))))) 81 82 := ag_mu (ag_rf M1 _ _) (by omega) (by omega)
      refine ev_iload_n (i := 1) dX8_note_51 rfl rfl ?_
      refine ev_bipush (v := nI 25) dX8_note_52 rfl ?_
      refine ev_icmp_geN 83 dX8_note_54 (by decide) (by omega) (by omega) (fun b54 => by exfalso; omega) (fun b54 => ?_)
      refine ev_aload_n (i := 0) dX8_note_57 rfl rfl ?_
      refine ev_getfield dX8_note_58 fX8_34 (by first | omega | decide) (by first | assumption | (simp (disch := omega) only [mu_s, mu_n]; first | assumption | rfl)) (by rfl) ?_
      refine ev_bipush (v := nI 25) dX8_note_61 rfl ?_
      refine ev_aload_n (i := 0) dX8_note_63 rfl rfl ?_
      refine ev_getfield dX8_note_64 fX8_92 (by first | omega | decide) (by first | assumption | (simp (disch := omega) only [mu_s, mu_n]; first | assumption | rfl)) (by rfl) ?_
      refine ev_imulN dX8_note_67 ?_
      refine ev_iload_n (i := 1) dX8_note_68 rfl rfl ?_
      refine ev_iaddN dX8_note_69 ?_
      refine ev_aload_n (i := 0) dX8_note_70 rfl rfl ?_
      refine ev_getfield dX8_note_71 fX8_28 (by first | omega | decide) (by first | assumption | (simp (disch := omega) only [mu_s, mu_n]; first | assumption | rfl)) (by rfl) ?_
      refine ev_iload_n (i := 1) dX8_note_74 rfl rfl ?_
      refine ev_ialoadN dX8_note_75 (by first | omega | decide) (by first | assumption | (simp (disch := omega) only [mu_s, mu_n]; first | assumption | rfl)) (by omega) (by decide) ?_
      refine ev_iastoreN dX8_note_76 (by first | omega | decide) (by first | assumption | (simp (disch := omega) only [mu_s, mu_n]; first | assumption | rfl)) (by omega) (by decide) ?_
      refine ev_incN dX8_note_77 (by rfl) (by decide) rfl ?_
      refine ev_goto 51 dX8_note_80 (by decide) ?_
      exact ih (c + 1) _ (upd f3 (25 * b.length + c) (g c)) (by omega) (ag_tr ha eA) (kO_ag yO eA (by omega)) (kR_bk yR eA ⟨_, mu_s _ _ _, fun i q hq => by cases hq⟩) ((mu_n (by omega)).trans y1) (mu_s _ _ _) (fun i hi => (upd_b (by omega)).trans (e1 i hi)) (fun i hi => by
        by_cases z : i = c
        · rw [z]; exact upd_a rfl
        · exact (upd_b (by omega)).trans (e2 i (by omega)))
  have hR0 : kR M (t, l, p, [], sl, v, sd) := kR_bk hR (ag_rf M _ _) ⟨f, f1, fun i q hq => by cases hq⟩
  have x0 := hO
  unfold kO at x0
  by_cases h : a.length < 14
  · have e0 : a ++ [p] = actsAdd a p := by unfold actsAdd; rw [if_pos h]
    refine ev_aload_n (i := 0) dX8_note_0 rfl rfl ?_
    refine ev_getfield dX8_note_1 fX8_92 (by first | omega | decide) (by first | assumption | (simp (disch := omega) only [mu_s, mu_n]; first | assumption | rfl)) (by rfl) ?_
    refine ev_bipush (v := nI 14) dX8_note_4 rfl ?_
    refine ev_icmp_neN 49 dX8_note_6 (by decide) (by omega) (by omega) (fun b6 => ?_) (fun b6 => by exfalso; omega)
    refine ev_iconst (v := nI 0) dX8_note_49 rfl ?_
    refine ev_istore_n (i := 1) dX8_note_50 rfl (by decide) rfl ?_
    exact cp a f e0 h f2 25 0 M f rfl (ag_rf M _ _) hO hR0 g1 f1 (fun _ _ => rfl) (fun i hi => absurd hi (Nat.not_lt_zero i))
  · have e0 : a.drop 1 ++ [p] = actsAdd a p := by unfold actsAdd; rw [if_neg h]
    have hlen : (a.drop 1).length = a.length - 1 := by rw [List.length_drop]
    have sh : ∀ (j c : Nat) (M1 : mM) (f3 : Nat → Int32), c + j = 325 → ag M M1 72 88 → kO M1 e t.1 l.1 a.length v.1 sd → kR M1 (t, l, p, [], sl, v, sd) → M1 79 = .inl (0, 25, .inl g) → M1 81 = .inl (0, 350, .inl f3) → (∀ i, i < c → f3 i = f (i + 25)) → (∀ i, c ≤ i → f3 i = f i) → Ev 88 d mX8_note none 11 [.ref 72, .int (nI c)] [] M1 P := by
      intro j
      induction j with
      | zero =>
        intro c M1 f3 hc ha yO yR y1 y2 e1 e2
        obtain rfl : c = 325 := by omega
        have x0 := yO
        unfold kO at x0
        refine ev_iload_n (i := 1) dX8_note_11 rfl rfl ?_
        refine ev_sipush (v := nI 325) dX8_note_12 rfl ?_
        refine ev_icmp_geN 39 dX8_note_15 (by decide) (by omega) (by omega) (fun b15 => ?_) (fun b15 => by exfalso; omega)
        refine ev_aload_n (i := 0) dX8_note_39 rfl rfl ?_
        refine ev_dup dX8_note_40 rfl ?_
        refine ev_getfield dX8_note_41 fX8_92 (by first | omega | decide) (by first | assumption | (simp (disch := omega) only [mu_s, mu_n]; first | assumption | rfl)) (by rfl) ?_
        refine ev_iconst (v := nI 1) dX8_note_44 rfl ?_
        refine ev_isubN dX8_note_45 (by omega) ?_
        refine ev_putI dX8_note_46 fwX8_92 (by first | omega | decide) (by first | assumption | (simp (disch := omega) only [mu_s, mu_n]; first | assumption | rfl)) (Nat.le_of_ble_eq_true rfl) ?_
        refine ev_iconst (v := nI 0) dX8_note_49 rfl ?_
        refine ev_istore_n (i := 1) dX8_note_50 rfl (by decide) rfl ?_
        have eA : ag M1 (mu M1 72 (.inr (8, [.int (e 0), .ref 73, .int (nI t.1), .int (e 1), .int (nI l.1), .ref 74, .ref 75, .ref 76, .ref 77, .int (e 2), .ref 78, .ref 79, .ref 80, .ref 81, .int (nI (a.length - 1)), .ref 82, .ref 83, .int (nI v.1), .ref 84, .ref 85, .long sd, .int (e 3), .int (e 4), .int (e 5), .int (e 6), .ref 86, .ref 87]))) 72 73 := ag_mu (ag_rf M1 _ _) (by omega) (by omega)
        refine cp (a.drop 1) f3 e0 (by omega) (fun i q hq => ?_) 25 0 _ f3 rfl (ag_tr ha eA) (by rw [hlen]; exact mu_s _ _ _) (kR_ob yR eA) ((mu_n (by omega)).trans y1) ((mu_n (by omega)).trans y2) (fun _ _ => rfl) (fun i hi => absurd hi (Nat.not_lt_zero i))
        rw [List.getElem?_drop] at hq
        have hi : 1 + i < a.length := by
          rcases Nat.lt_or_ge (1 + i) a.length with z | z
          · exact z
          · rw [List.getElem?_eq_none z] at hq; cases hq
        exact gF_cong (f2 _ q hq) (fun j hj => by rw [e1 _ (by omega)]; exact congrArg f (by omega))
      | succ j ih =>
        intro c M1 f3 hc ha yO yR y1 y2 e1 e2
        have x0 := yO
        unfold kO at x0
        have eA : ag M1 (mu M1 81 (.inl (0, 350, .inl (upd f3 c (f3 (c + 25)))))) 81 82 := ag_mu (ag_rf M1 _ _) (by omega) (by omega)
        refine ev_iload_n (i := 1) dX8_note_11 rfl rfl ?_
        refine ev_sipush (v := nI 325) dX8_note_12 rfl ?_
        refine ev_icmp_geN 39 dX8_note_15 (by decide) (by omega) (by omega) (fun b15 => by exfalso; omega) (fun b15 => ?_)
        refine ev_aload_n (i := 0) dX8_note_18 rfl rfl ?_
        refine ev_getfield dX8_note_19 fX8_34 (by first | omega | decide) (by first | assumption | (simp (disch := omega) only [mu_s, mu_n]; first | assumption | rfl)) (by rfl) ?_
        refine ev_iload_n (i := 1) dX8_note_22 rfl rfl ?_
        refine ev_aload_n (i := 0) dX8_note_23 rfl rfl ?_
        refine ev_getfield dX8_note_24 fX8_34 (by first | omega | decide) (by first | assumption | (simp (disch := omega) only [mu_s, mu_n]; first | assumption | rfl)) (by rfl) ?_
        refine ev_iload_n (i := 1) dX8_note_27 rfl rfl ?_
        refine ev_bipush (v := nI 25) dX8_note_28 rfl ?_
        refine ev_iaddN dX8_note_30 ?_
        refine ev_ialoadN dX8_note_31 (by first | omega | decide) (by first | assumption | (simp (disch := omega) only [mu_s, mu_n]; first | assumption | rfl)) (by omega) (by decide) ?_
        refine ev_iastoreN dX8_note_32 (by first | omega | decide) (by first | assumption | (simp (disch := omega) only [mu_s, mu_n]; first | assumption | rfl)) (by omega) (by decide) ?_
        refine ev_incN dX8_note_33 (by rfl) (by decide) rfl ?_
        refine ev_goto 11 dX8_note_36 (by decide) ?_
        exact ih (c + 1) _ (upd f3 c (f3 (c + 25))) (by omega) (ag_tr ha eA) (kO_ag yO eA (by omega)) (kR_bk yR eA ⟨_, mu_s _ _ _, fun i q hq => by cases hq⟩) ((mu_n (by omega)).trans y1) (mu_s _ _ _) (fun i hi => by
          by_cases z : i = c
          · rw [z, upd_a rfl, e2 _ (by omega)]
          · exact (upd_b z).trans (e1 i (by omega))) (fun i hi => (upd_b (by omega)).trans (e2 i (by omega)))
    refine ev_aload_n (i := 0) dX8_note_0 rfl rfl ?_
    refine ev_getfield dX8_note_1 fX8_92 (by first | omega | decide) (by first | assumption | (simp (disch := omega) only [mu_s, mu_n]; first | assumption | rfl)) (by rfl) ?_
    refine ev_bipush (v := nI 14) dX8_note_4 rfl ?_
    refine ev_icmp_neN 49 dX8_note_6 (by decide) (by omega) (by omega) (fun b6 => by exfalso; omega) (fun b6 => ?_)
    refine ev_iconst (v := nI 0) dX8_note_9 rfl ?_
    refine ev_istore_n (i := 1) dX8_note_10 rfl (by decide) rfl ?_
    exact sh 325 0 M f rfl (ag_rf M _ _) hO hR0 g1 f1 (fun i hi => absurd hi (Nat.not_lt_zero i)) (fun _ _ => rfl)
end MDR
