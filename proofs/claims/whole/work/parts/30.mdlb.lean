theorem tn_ex : ∀ m, m < 16 → m % 2 * 2 ^ 3 ||| (m &&& 2) * 2 ^ 1 ||| (m &&& 4) / 2 ^ 1 ||| (m &&& 8) / 2 ^ 3 = tnN m 4 := by decide +kernel
section MEB
variable {M : mM} {P : Option Value → mM → Prop} {s : cs}

theorem R_office (h : kM M s) (ho : cOk s) (hp : ∀ M1, ag M M1 72 88 → kM M1 (n_office s) → P (some (.int (a_office s))) M1) : Ev 88 7 mX8_office none 0 [.ref 72, .null, .null, .null, .null] [] M P := by
  refine m_thr dX8_office_0 dX8_office_1 dX8_office_2 fwX8_60 h (fun M0 a0 h => ?_)
  replace hp : ∀ M1, ag M0 M1 72 88 → kM M1 (n_office s) → P (some (.int (a_office s))) M1 := fun M1 ha hk => hp M1 (ag_tr (ag_wd a0 : ag M M0 72 88) ha) hk
  clear a0
  obtain ⟨t, l, p, a, sl, v, sd⟩ := s
  obtain ⟨⟨e, x0⟩, hR⟩ := id h
  obtain ⟨h1, h2, h3, h11, h4, h5, h6, h7⟩ : arr M0 73 40 t.1 t.2 ∧ kML M0 l ∧ kG M0 79 p ∧ (∃ q, kG M0 80 q) ∧ kBk M0 a ∧ kKp M0 sl ∧ kMV M0 v ∧ kX M0 := id hR
  obtain ⟨o1, o2, o3, o4, o5, o6, o7⟩ : txOk t ∧ ltOk l ∧ pgOk p ∧ (∀ q ∈ a, pgOk q) ∧ a.length ≤ 14 ∧ (∀ i q, sl i = some q → pgOk q) ∧ ovOk v := ho
  have hO : kO M0 e t.1 l.1 a.length v.1 sd := x0
  have hl6 := o2.1
  have hv6 := o7.1
  unfold kO at x0
  cases hf : fltN t with
  | some i =>
    have hfn : ¬ fltN t = none := by rw [hf]; intro z; cases z
    have e1 : a_office (t, l, p, a, sl, v, sd) = (-3) := by unfold a_office; rw [if_neg hfn]
    have e2 : n_office (t, l, p, a, sl, v, sd) = (t, l, p, a, sl, v, sd) := by unfold n_office; rw [if_neg hfn]
    rw [e1, e2] at hp
    have hi : i ≤ 40 := by
      have h40 := o1.1
      unfold fltN at hf
      cases q : lf (fun i => !rtB t i) t.1 0 with
      | some j =>
        have := (lf_some q).2.1
        rw [q] at hf
        cases hf
        omega
      | none =>
        rw [q] at hf
        have hf : (if 0 < t.1 ∧ (t.1 - 1) % 5 = 0 then none else some t.1) = some i := hf
        split at hf
        · cases hf
        · cases hf; omega
    have hi9 : ¬ oI (some i) = (-9) := n_9 (by omega)
    refine ev_aload_n (i := 0) dX8_office_5 rfl rfl ?_
    refine ev_V0 (μ1 := mX8_readOffice) dX8_office_6 sX8_88 okX8_readOffice (by first | omega | decide) (by first | assumption | (simp (disch := omega) only [mu_s, mu_n]; first | assumption | rfl)) (Nat.le_of_ble_eq_true rfl) (Nat.le_of_ble_eq_true rfl) ?_
    refine c_readOffice hO hR o1 (fun M1 e1 ha hO1 hR1 _ => ?_)
    rw [hf]
    refine ev_bipush (v := (-9)) dX8_office_9 rfl ?_
    refine ev_icmp_eq 17 dX8_office_11 (by decide) (fun b11 => absurd b11 hi9) (fun b11 => ?_)
    refine ev_bipush (v := (-3)) dX8_office_14 rfl ?_
    refine ev_reti dX8_office_16 rfl rfl ?_
    exact hp M1 ha ⟨⟨e1, hO1⟩, hR1⟩
  | none =>
    have e1 : a_office (t, l, p, a, sl, v, sd) = nI ((t.1 - 1) / 5) := by unfold a_office; rw [if_pos hf]
    have e2 : n_office (t, l, p, a, sl, v, sd) = (t, ltOf t, pgNew 0, [], (fun _ => none), v, sd) := by unfold n_office; rw [if_pos hf]
    rw [e1, e2] at hp
    obtain ⟨n, hn⟩ : ∃ n, n = (t.1 - 1) / 5 := ⟨_, rfl⟩
    have h31 := flt_n hf
    have hfin : ∀ (M1 : mM) (e1 : Nat → Int32), ag M0 M1 72 88 → kO M1 e1 t.1 n a.length v.1 sd → kR M1 (t, ltOf t, p, a, sl, v, sd) → ∀ lx ly lz lw, Ev 88 7 mX8_office none 187 [.ref 72, lx, ly, lz, lw] [] M1 P := by
      intro M1 e1 ha yO yR lx ly lz lw
      have z0 := yO
      unfold kO at z0
      rw [← hn] at hp
      refine ev_aload_n (i := 0) dX8_office_187 rfl rfl ?_
      refine ev_getfield dX8_office_188 fX8_28 (by first | omega | decide) (by first | assumption | (simp (disch := omega) only [mu_s, mu_n]; first | assumption | rfl)) (by rfl) ?_
      refine ev_S1 (μ1 := mX8_clean) dX8_office_191 sX8_56 okX8_clean (Nat.le_of_ble_eq_true rfl) (Nat.le_of_ble_eq_true rfl) ?_
      refine c_mClean (by omega) yR.2.2.1 (fun M2 ha2 hk2 => ?_)
      have yO2 := kO_ag yO ha2 (by omega)
      have z2 := yO2
      unfold kO at z2
      have yR2 := kR_pg yR ha2 hk2
      obtain ⟨g, g1, g2, g3, g4⟩ := id hk2
      obtain ⟨fb, bb, b1, b2, -⟩ := yR2.2.2.2.2.2.1
      obtain ⟨fk, k1, -⟩ := yR2.2.2.2.2.1
      refine ev_aload_n (i := 0) dX8_office_194 rfl rfl ?_
      refine ev_getfield dX8_office_195 fX8_28 (by first | omega | decide) (by first | assumption | (simp (disch := omega) only [mu_s, mu_n]; first | assumption | rfl)) (by rfl) ?_
      refine ev_bipush (v := nI 24) dX8_office_198 rfl ?_
      refine ev_iconst (v := nI 0) dX8_office_200 rfl ?_
      refine ev_iastoreN dX8_office_201 (by first | omega | decide) (by first | assumption | (simp (disch := omega) only [mu_s, mu_n]; first | assumption | rfl)) (by omega) (by decide) ?_
      refine ev_aload_n (i := 0) dX8_office_202 rfl rfl ?_
      refine ev_iconst (v := nI 0) dX8_office_203 rfl ?_
      refine ev_putI dX8_office_204 fwX8_92 (by first | omega | decide) (by first | assumption | (simp (disch := omega) only [mu_s, mu_n]; first | assumption | rfl)) (Nat.le_of_ble_eq_true rfl) ?_
      refine ev_aload_n (i := 0) dX8_office_207 rfl rfl ?_
      refine ev_getfield dX8_office_208 fX8_40 (by first | omega | decide) (by first | assumption | (simp (disch := omega) only [mu_s, mu_n]; first | assumption | rfl)) (by rfl) ?_
      refine ev_iconst (v := nI 0) dX8_office_211 rfl ?_
      refine ev_iconst (v := nI 0) dX8_office_212 rfl ?_
      refine ev_bastoreN dX8_office_213 (by first | omega | decide) (by first | assumption | (simp (disch := omega) only [mu_s, mu_n]; first | assumption | rfl)) (by omega) (by decide) ?_
      refine ev_aload_n (i := 0) dX8_office_214 rfl rfl ?_
      refine ev_getfield dX8_office_215 fX8_40 (by first | omega | decide) (by first | assumption | (simp (disch := omega) only [mu_s, mu_n]; first | assumption | rfl)) (by rfl) ?_
      refine ev_iconst (v := nI 1) dX8_office_218 rfl ?_
      refine ev_iconst (v := nI 0) dX8_office_219 rfl ?_
      refine ev_bastoreN dX8_office_220 (by first | omega | decide) (by first | assumption | (simp (disch := omega) only [mu_s, mu_n]; first | assumption | rfl)) (by omega) (by decide) ?_
      refine ev_aload_n (i := 0) dX8_office_221 rfl rfl ?_
      refine ev_getfield dX8_office_222 fX8_64 (by first | omega | decide) (by first | assumption | (simp (disch := omega) only [mu_s, mu_n]; first | assumption | rfl)) (by rfl) ?_
      refine ev_reti dX8_office_225 rfl rfl ?_
      refine hp _ (ag_mu (ag_mu (ag_mu (ag_mu (ag_tr ha ha2) (by omega) (by omega)) (by omega) (by omega)) (by omega) (by omega)) (by omega) (by omega)) ⟨⟨e1, ?_⟩, ?_⟩
      · show kO _ e1 t.1 (ltOf t).1 0 v.1 sd
        rw [show (ltOf t).1 = n from hn.symm]
        exact (mu_n (by omega)).trans ((mu_n (by omega)).trans (mu_s _ _ _))
      · refine kR_kp (kR_ob (kR_bk (a1 := []) (kR_pg (p1 := pgNew 0) yR2 (ag_mu (ag_rf M2 79 80) (by omega) (by omega)) ⟨_, mu_s _ _ _, fun c hc => (upd_b (by omega)).trans (g2 c hc), fun c hc => (upd_b (by omega)).trans (g3 c hc), upd_a rfl⟩) (ag_rf _ _ _) ⟨fk, (mu_n (by omega)).trans k1, fun i r hr => by cases hr⟩) (ag_mu (ag_rf _ 72 73) (by omega) (by omega))) (ag_mu (ag_mu (ag_rf _ 82 84) (by omega) (by omega)) (by omega) (by omega)) ⟨fb, _, (mu_n (by omega)).trans ((mu_n (by omega)).trans ((mu_n (by omega)).trans ((mu_n (by omega)).trans b1))), mu_s _ _ _, fun i hi => ?_, fun i hi r hr => by cases hr⟩
        rcases (show i = 0 ∨ i = 1 by omega) with rfl | rfl
        · exact (upd_b (by omega)).trans (upd_a rfl)
        · exact upd_a rfl
    have lp : ∀ (j c : Nat) (M1 : mM) (e1 f1 : Nat → Int32) (lx ly lz : Value), c + j = n → ag M0 M1 72 88 → kO M1 e1 t.1 n a.length v.1 sd → kR M1 (t, (c, (ltOf t).2), p, a, sl, v, sd) → M1 78 = .inl (0, 24, .inl f1) → (∀ c k, c < n → k < 4 → f1 (4 * c + k) = nI (t.2 (5 * c + 2 + k) - 48)) → Ev 88 7 mX8_office none 27 [.ref 72, .int (nI c), lx, ly, lz] [] M1 P := by
      intro j
      induction j with
      | zero =>
        intro c M1 e1 f1 lx ly lz hc ha yO yR y78 hfa
        obtain rfl : c = n := by omega
        have z0 := yO
        unfold kO at z0
        refine ev_iload_n (i := 1) dX8_office_27 rfl rfl ?_
        refine ev_aload_n (i := 0) dX8_office_28 rfl rfl ?_
        refine ev_getfield dX8_office_29 fX8_64 (by first | omega | decide) (by first | assumption | (simp (disch := omega) only [mu_s, mu_n]; first | assumption | rfl)) (by rfl) ?_
        refine ev_icmp_geN 187 dX8_office_32 (by decide) (by omega) (by omega) (fun b32 => ?_) (fun b32 => by exfalso; omega)
        exact hfin M1 e1 ha yO (by rw [hn] at yR; exact yR) _ _ _ _
      | succ j ih =>
        intro c M1 e1 f1 lx ly lz hc ha yO yR y78 hfa
        have z0 := yO
        unfold kO at z0
        have hcn : c < n := by omega
        obtain ⟨A0, ⟨A1, A2⟩, ⟨A3, A4⟩, ⟨A5, A6⟩, ⟨A7, A8⟩⟩ := flt_l hf (show c < (t.1 - 1) / 5 by omega)
        have r0 : f1 (4 * c) = nI (t.2 (5 * c + 2) - 48) := hfa c 0 hcn (by omega)
        have r1 : f1 (4 * c + 1) = nI (t.2 (5 * c + 3) - 48) := hfa c 1 hcn (by omega)
        have r2 : f1 (4 * c + 2) = nI (t.2 (5 * c + 4) - 48) := hfa c 2 hcn (by omega)
        have r3 : f1 (4 * c + 3) = nI (t.2 (5 * c + 5) - 48) := hfa c 3 hcn (by omega)
        obtain ⟨pl, hpl⟩ : ∃ x, x = t.2 (5 * c + 2) - 48 := ⟨_, rfl⟩
        obtain ⟨m, hm⟩ : ∃ x, x = t.2 (5 * c + 3) - 48 := ⟨_, rfl⟩
        obtain ⟨S, hS⟩ : ∃ x, x = t.2 (5 * c + 4) - 48 := ⟨_, rfl⟩
        obtain ⟨H, hH⟩ : ∃ x, x = t.2 (5 * c + 5) - 48 := ⟨_, rfl⟩
        have T1 : (ltOf t).2.1 c = pl := hpl.symm
        have T2 : (ltOf t).2.2.1 c = H := hH.symm
        have T3 : (ltOf t).2.2.2.1 c = frN S H := by rw [hS, hH]; rfl
        have T4 : (ltOf t).2.2.2.2 c = mkN m H * 2 ^ pl := by rw [hpl, hm, hH]; rfl
        rw [← hpl] at r0
        rw [← hm] at r1
        rw [← hS] at r2
        rw [← hH] at r3
        obtain ⟨⟨fa, xa, ya⟩, ⟨fb, xb, yb⟩, ⟨fc, xc, yc⟩, ⟨fd, xd, yd⟩⟩ : arr M1 74 6 c (ltOf t).2.1 ∧ arr M1 75 6 c (ltOf t).2.2.1 ∧ arr M1 76 6 c (ltOf t).2.2.2.1 ∧ arr M1 77 6 c (ltOf t).2.2.2.2 := yR.2.1
        have tn := tn_ex m (by omega)
        have kk : ∀ (M2 : mM) (F C : Nat) (lx ly lz : Value), ag M1 M2 74 78 → M2 74 = .inl (0, 6, .inl (upd fa c (nI pl))) → M2 75 = .inl (0, 6, .inl (upd fb c (nI H))) → M2 76 = .inl (0, 6, .inl (upd fc c (nI F))) → M2 77 = .inl (0, 6, .inl (upd fd c (nI C))) → F = frN S H → C = mkN m H * 2 ^ pl → Ev 88 7 mX8_office none 27 [.ref 72, .int (nI (c + 1)), lx, ly, lz] [] M2 P := by
          intro M2 F C lx ly lz hg w1 w2 w3 w4 hF hC
          exact ih (c + 1) M2 e1 f1 lx ly lz (by omega) (ag_tr ha hg) (kO_ag yO hg (by omega)) (kR_lt (l1 := (c + 1, (ltOf t).2)) yR hg ⟨arr_sn w1 ya T1, arr_sn w2 yb T2, arr_sn w3 yc (T3.trans hF.symm), arr_sn w4 yd (T4.trans hC.symm)⟩) ((hg 78 (by omega)).trans y78) hfa
        rcases (show H = 1 ∨ H = 2 ∨ H = 3 ∨ H = 0 by omega) with q | q | q | q
        · have F0 : frN S H = S - 1 := by unfold frN; rw [if_pos q]
          have C0 : mkN m H = m := by unfold mkN; rw [if_neg (by omega)]
          refine ev_iload_n (i := 1) dX8_office_27 rfl rfl ?_
          refine ev_aload_n (i := 0) dX8_office_28 rfl rfl ?_
          refine ev_getfield dX8_office_29 fX8_64 (by first | omega | decide) (by first | assumption | (simp (disch := omega) only [mu_s, mu_n]; first | assumption | rfl)) (by rfl) ?_
          refine ev_icmp_geN 187 dX8_office_32 (by decide) (by omega) (by omega) (fun b32 => by exfalso; omega) (fun b32 => ?_)
          refine ev_aload_n (i := 0) dX8_office_35 rfl rfl ?_
          refine ev_getfield dX8_office_36 fX8_13 (by first | omega | decide) (by first | assumption | (simp (disch := omega) only [mu_s, mu_n]; first | assumption | rfl)) (by rfl) ?_
          refine ev_iload_n (i := 1) dX8_office_39 rfl rfl ?_
          refine ev_aload_n (i := 0) dX8_office_40 rfl rfl ?_
          refine ev_getfield dX8_office_41 fX8_25 (by first | omega | decide) (by first | assumption | (simp (disch := omega) only [mu_s, mu_n]; first | assumption | rfl)) (by rfl) ?_
          refine ev_iconst (v := nI 4) dX8_office_44 rfl ?_
          refine ev_iload_n (i := 1) dX8_office_45 rfl rfl ?_
          refine ev_imulN dX8_office_46 ?_
          refine ev_ialoadN dX8_office_47 (by first | omega | decide) (by first | assumption | (simp (disch := omega) only [mu_s, mu_n]; first | assumption | rfl)) (by omega) (by decide) ?_
          refine ev_top (i_op r0) ?_
          refine ev_iastoreN dX8_office_48 (by first | omega | decide) (by first | assumption | (simp (disch := omega) only [mu_s, mu_n]; first | assumption | rfl)) (by omega) (by decide) ?_
          refine ev_aload_n (i := 0) dX8_office_49 rfl rfl ?_
          refine ev_getfield dX8_office_50 fX8_16 (by first | omega | decide) (by first | assumption | (simp (disch := omega) only [mu_s, mu_n]; first | assumption | rfl)) (by rfl) ?_
          refine ev_iload_n (i := 1) dX8_office_53 rfl rfl ?_
          refine ev_aload_n (i := 0) dX8_office_54 rfl rfl ?_
          refine ev_getfield dX8_office_55 fX8_25 (by first | omega | decide) (by first | assumption | (simp (disch := omega) only [mu_s, mu_n]; first | assumption | rfl)) (by rfl) ?_
          refine ev_iconst (v := nI 4) dX8_office_58 rfl ?_
          refine ev_iload_n (i := 1) dX8_office_59 rfl rfl ?_
          refine ev_imulN dX8_office_60 ?_
          refine ev_iconst (v := nI 3) dX8_office_61 rfl ?_
          refine ev_iaddN dX8_office_62 ?_
          refine ev_ialoadN dX8_office_63 (by first | omega | decide) (by first | assumption | (simp (disch := omega) only [mu_s, mu_n]; first | assumption | rfl)) (by omega) (by decide) ?_
          refine ev_top (i_op r3) ?_
          refine ev_iastoreN dX8_office_64 (by first | omega | decide) (by first | assumption | (simp (disch := omega) only [mu_s, mu_n]; first | assumption | rfl)) (by omega) (by decide) ?_
          refine ev_aload_n (i := 0) dX8_office_65 rfl rfl ?_
          refine ev_getfield dX8_office_66 fX8_25 (by first | omega | decide) (by first | assumption | (simp (disch := omega) only [mu_s, mu_n]; first | assumption | rfl)) (by rfl) ?_
          refine ev_iconst (v := nI 4) dX8_office_69 rfl ?_
          refine ev_iload_n (i := 1) dX8_office_70 rfl rfl ?_
          refine ev_imulN dX8_office_71 ?_
          refine ev_iconst (v := nI 1) dX8_office_72 rfl ?_
          refine ev_iaddN dX8_office_73 ?_
          refine ev_ialoadN dX8_office_74 (by first | omega | decide) (by first | assumption | (simp (disch := omega) only [mu_s, mu_n]; first | assumption | rfl)) (by omega) (by decide) ?_
          refine ev_top (i_op r1) ?_
          refine ev_istore_n (i := 2) dX8_office_75 rfl (by decide) rfl ?_
          refine ev_aload_n (i := 0) dX8_office_76 rfl rfl ?_
          refine ev_getfield dX8_office_77 fX8_25 (by first | omega | decide) (by first | assumption | (simp (disch := omega) only [mu_s, mu_n]; first | assumption | rfl)) (by rfl) ?_
          refine ev_iconst (v := nI 4) dX8_office_80 rfl ?_
          refine ev_iload_n (i := 1) dX8_office_81 rfl rfl ?_
          refine ev_imulN dX8_office_82 ?_
          refine ev_iconst (v := nI 2) dX8_office_83 rfl ?_
          refine ev_iaddN dX8_office_84 ?_
          refine ev_ialoadN dX8_office_85 (by first | omega | decide) (by first | assumption | (simp (disch := omega) only [mu_s, mu_n]; first | assumption | rfl)) (by omega) (by decide) ?_
          refine ev_top (i_op r2) ?_
          refine ev_istore_n (i := 3) dX8_office_86 rfl (by decide) rfl ?_
          refine ev_aload_n (i := 0) dX8_office_87 rfl rfl ?_
          refine ev_getfield dX8_office_88 fX8_19 (by first | omega | decide) (by first | assumption | (simp (disch := omega) only [mu_s, mu_n]; first | assumption | rfl)) (by rfl) ?_
          refine ev_iload_n (i := 1) dX8_office_91 rfl rfl ?_
          refine ev_aload_n (i := 0) dX8_office_92 rfl rfl ?_
          refine ev_getfield dX8_office_93 fX8_16 (by first | omega | decide) (by first | assumption | (simp (disch := omega) only [mu_s, mu_n]; first | assumption | rfl)) (by rfl) ?_
          refine ev_iload_n (i := 1) dX8_office_96 rfl rfl ?_
          refine ev_ialoadN dX8_office_97 (by first | omega | decide) (by first | assumption | (simp (disch := omega) only [mu_s, mu_n]; first | assumption | rfl)) (by omega) (by decide) ?_
          refine ev_top (i_op (upd_a rfl)) ?_
          refine ev_iconst (v := nI 1) dX8_office_98 rfl ?_
          refine ev_icmp_neN 108 dX8_office_99 (by decide) (by omega) (by omega) (fun b99 => by exfalso; omega) (fun b99 => ?_)
          refine ev_iload_n (i := 3) dX8_office_102 rfl rfl ?_
          refine ev_iconst (v := nI 1) dX8_office_103 rfl ?_
          refine ev_isubN dX8_office_104 (by omega) ?_
          refine ev_goto 125 dX8_office_105 (by decide) ?_
          refine ev_iastoreN dX8_office_125 (by first | omega | decide) (by first | assumption | (simp (disch := omega) only [mu_s, mu_n]; first | assumption | rfl)) (by omega) (by decide) ?_
          refine ev_iload_n (i := 2) dX8_office_126 rfl rfl ?_
          refine ev_iconst (v := nI 1) dX8_office_127 rfl ?_
          refine ev_iand1 dX8_office_128 ?_
          refine ev_iconst (v := nI 3) dX8_office_129 rfl ?_
          refine ev_ishlN dX8_office_130 (by omega) ?_
          refine ev_iload_n (i := 2) dX8_office_131 rfl rfl ?_
          refine ev_iconst (v := nI 2) dX8_office_132 rfl ?_
          refine ev_iandN dX8_office_133 ?_
          refine ev_iconst (v := nI 1) dX8_office_134 rfl ?_
          refine ev_ishlN dX8_office_135 (by omega) ?_
          refine ev_iorN dX8_office_136 ?_
          refine ev_iload_n (i := 2) dX8_office_137 rfl rfl ?_
          refine ev_iconst (v := nI 4) dX8_office_138 rfl ?_
          refine ev_iandN dX8_office_139 ?_
          refine ev_iconst (v := nI 1) dX8_office_140 rfl ?_
          refine ev_ishrN dX8_office_141 (and_lt31 (by decide)) (by omega) ?_
          refine ev_iorN dX8_office_142 ?_
          refine ev_iload_n (i := 2) dX8_office_143 rfl rfl ?_
          refine ev_bipush (v := nI 8) dX8_office_144 rfl ?_
          refine ev_iandN dX8_office_146 ?_
          refine ev_iconst (v := nI 3) dX8_office_147 rfl ?_
          refine ev_ishrN dX8_office_148 (and_lt31 (by decide)) (by omega) ?_
          refine ev_iorN dX8_office_149 ?_
          refine ev_top (i_op (congrArg nI tn)) ?_
          refine ev_istore (i := 4) dX8_office_150 (by decide) rfl ?_
          refine ev_aload_n (i := 0) dX8_office_152 rfl rfl ?_
          refine ev_getfield dX8_office_153 fX8_22 (by first | omega | decide) (by first | assumption | (simp (disch := omega) only [mu_s, mu_n]; first | assumption | rfl)) (by rfl) ?_
          refine ev_iload_n (i := 1) dX8_office_156 rfl rfl ?_
          refine ev_aload_n (i := 0) dX8_office_157 rfl rfl ?_
          refine ev_getfield dX8_office_158 fX8_16 (by first | omega | decide) (by first | assumption | (simp (disch := omega) only [mu_s, mu_n]; first | assumption | rfl)) (by rfl) ?_
          refine ev_iload_n (i := 1) dX8_office_161 rfl rfl ?_
          refine ev_ialoadN dX8_office_162 (by first | omega | decide) (by first | assumption | (simp (disch := omega) only [mu_s, mu_n]; first | assumption | rfl)) (by omega) (by decide) ?_
          refine ev_top (i_op (upd_a rfl)) ?_
          refine ev_iconst (v := nI 3) dX8_office_163 rfl ?_
          refine ev_icmp_neN 172 dX8_office_164 (by decide) (by omega) (by omega) (fun b164 => ?_) (fun b164 => by exfalso; omega)
          refine ev_iload_n (i := 2) dX8_office_172 rfl rfl ?_
          refine ev_aload_n (i := 0) dX8_office_173 rfl rfl ?_
          refine ev_getfield dX8_office_174 fX8_13 (by first | omega | decide) (by first | assumption | (simp (disch := omega) only [mu_s, mu_n]; first | assumption | rfl)) (by rfl) ?_
          refine ev_iload_n (i := 1) dX8_office_177 rfl rfl ?_
          refine ev_ialoadN dX8_office_178 (by first | omega | decide) (by first | assumption | (simp (disch := omega) only [mu_s, mu_n]; first | assumption | rfl)) (by omega) (by decide) ?_
          refine ev_top (i_op (upd_a rfl)) ?_
          refine ev_ishlN dX8_office_179 (by omega) ?_
          refine ev_iastoreN dX8_office_180 (by first | omega | decide) (by first | assumption | (simp (disch := omega) only [mu_s, mu_n]; first | assumption | rfl)) (by omega) (by decide) ?_
          refine ev_incN dX8_office_181 (by rfl) (by decide) rfl ?_
          refine ev_goto 27 dX8_office_184 (by decide) ?_
          exact kk _ _ _ _ _ _ (ag_mu (ag_mu (ag_mu (ag_mu (ag_rf M1 _ _) (by omega) (by omega)) (by omega) (by omega)) (by omega) (by omega)) (by omega) (by omega)) (by simp (disch := omega) only [mu_s, mu_n]) (by simp (disch := omega) only [mu_s, mu_n]) (by simp (disch := omega) only [mu_s, mu_n]) (mu_s _ _ _) F0.symm (by rw [C0])
        · have F0 : frN S H = S + 1 := by unfold frN; rw [if_neg (by omega), if_pos q]
          have C0 : mkN m H = m := by unfold mkN; rw [if_neg (by omega)]
          refine ev_iload_n (i := 1) dX8_office_27 rfl rfl ?_
          refine ev_aload_n (i := 0) dX8_office_28 rfl rfl ?_
          refine ev_getfield dX8_office_29 fX8_64 (by first | omega | decide) (by first | assumption | (simp (disch := omega) only [mu_s, mu_n]; first | assumption | rfl)) (by rfl) ?_
          refine ev_icmp_geN 187 dX8_office_32 (by decide) (by omega) (by omega) (fun b32 => by exfalso; omega) (fun b32 => ?_)
          refine ev_aload_n (i := 0) dX8_office_35 rfl rfl ?_
          refine ev_getfield dX8_office_36 fX8_13 (by first | omega | decide) (by first | assumption | (simp (disch := omega) only [mu_s, mu_n]; first | assumption | rfl)) (by rfl) ?_
          refine ev_iload_n (i := 1) dX8_office_39 rfl rfl ?_
          refine ev_aload_n (i := 0) dX8_office_40 rfl rfl ?_
          refine ev_getfield dX8_office_41 fX8_25 (by first | omega | decide) (by first | assumption | (simp (disch := omega) only [mu_s, mu_n]; first | assumption | rfl)) (by rfl) ?_
          refine ev_iconst (v := nI 4) dX8_office_44 rfl ?_
          refine ev_iload_n (i := 1) dX8_office_45 rfl rfl ?_
          refine ev_imulN dX8_office_46 ?_
          refine ev_ialoadN dX8_office_47 (by first | omega | decide) (by first | assumption | (simp (disch := omega) only [mu_s, mu_n]; first | assumption | rfl)) (by omega) (by decide) ?_
          refine ev_top (i_op r0) ?_
          refine ev_iastoreN dX8_office_48 (by first | omega | decide) (by first | assumption | (simp (disch := omega) only [mu_s, mu_n]; first | assumption | rfl)) (by omega) (by decide) ?_
          refine ev_aload_n (i := 0) dX8_office_49 rfl rfl ?_
          refine ev_getfield dX8_office_50 fX8_16 (by first | omega | decide) (by first | assumption | (simp (disch := omega) only [mu_s, mu_n]; first | assumption | rfl)) (by rfl) ?_
          refine ev_iload_n (i := 1) dX8_office_53 rfl rfl ?_
          refine ev_aload_n (i := 0) dX8_office_54 rfl rfl ?_
          refine ev_getfield dX8_office_55 fX8_25 (by first | omega | decide) (by first | assumption | (simp (disch := omega) only [mu_s, mu_n]; first | assumption | rfl)) (by rfl) ?_
          refine ev_iconst (v := nI 4) dX8_office_58 rfl ?_
          refine ev_iload_n (i := 1) dX8_office_59 rfl rfl ?_
          refine ev_imulN dX8_office_60 ?_
          refine ev_iconst (v := nI 3) dX8_office_61 rfl ?_
          refine ev_iaddN dX8_office_62 ?_
          refine ev_ialoadN dX8_office_63 (by first | omega | decide) (by first | assumption | (simp (disch := omega) only [mu_s, mu_n]; first | assumption | rfl)) (by omega) (by decide) ?_
          refine ev_top (i_op r3) ?_
          refine ev_iastoreN dX8_office_64 (by first | omega | decide) (by first | assumption | (simp (disch := omega) only [mu_s, mu_n]; first | assumption | rfl)) (by omega) (by decide) ?_
          refine ev_aload_n (i := 0) dX8_office_65 rfl rfl ?_
          refine ev_getfield dX8_office_66 fX8_25 (by first | omega | decide) (by first | assumption | (simp (disch := omega) only [mu_s, mu_n]; first | assumption | rfl)) (by rfl) ?_
          refine ev_iconst (v := nI 4) dX8_office_69 rfl ?_
          refine ev_iload_n (i := 1) dX8_office_70 rfl rfl ?_
          refine ev_imulN dX8_office_71 ?_
          refine ev_iconst (v := nI 1) dX8_office_72 rfl ?_
          refine ev_iaddN dX8_office_73 ?_
          refine ev_ialoadN dX8_office_74 (by first | omega | decide) (by first | assumption | (simp (disch := omega) only [mu_s, mu_n]; first | assumption | rfl)) (by omega) (by decide) ?_
          refine ev_top (i_op r1) ?_
          refine ev_istore_n (i := 2) dX8_office_75 rfl (by decide) rfl ?_
          refine ev_aload_n (i := 0) dX8_office_76 rfl rfl ?_
          refine ev_getfield dX8_office_77 fX8_25 (by first | omega | decide) (by first | assumption | (simp (disch := omega) only [mu_s, mu_n]; first | assumption | rfl)) (by rfl) ?_
          refine ev_iconst (v := nI 4) dX8_office_80 rfl ?_
          refine ev_iload_n (i := 1) dX8_office_81 rfl rfl ?_
          refine ev_imulN dX8_office_82 ?_
          refine ev_iconst (v := nI 2) dX8_office_83 rfl ?_
          refine ev_iaddN dX8_office_84 ?_
          refine ev_ialoadN dX8_office_85 (by first | omega | decide) (by first | assumption | (simp (disch := omega) only [mu_s, mu_n]; first | assumption | rfl)) (by omega) (by decide) ?_
          refine ev_top (i_op r2) ?_
          refine ev_istore_n (i := 3) dX8_office_86 rfl (by decide) rfl ?_
          refine ev_aload_n (i := 0) dX8_office_87 rfl rfl ?_
          refine ev_getfield dX8_office_88 fX8_19 (by first | omega | decide) (by first | assumption | (simp (disch := omega) only [mu_s, mu_n]; first | assumption | rfl)) (by rfl) ?_
          refine ev_iload_n (i := 1) dX8_office_91 rfl rfl ?_
          refine ev_aload_n (i := 0) dX8_office_92 rfl rfl ?_
          refine ev_getfield dX8_office_93 fX8_16 (by first | omega | decide) (by first | assumption | (simp (disch := omega) only [mu_s, mu_n]; first | assumption | rfl)) (by rfl) ?_
          refine ev_iload_n (i := 1) dX8_office_96 rfl rfl ?_
          refine ev_ialoadN dX8_office_97 (by first | omega | decide) (by first | assumption | (simp (disch := omega) only [mu_s, mu_n]; first | assumption | rfl)) (by omega) (by decide) ?_
          refine ev_top (i_op (upd_a rfl)) ?_
          refine ev_iconst (v := nI 1) dX8_office_98 rfl ?_
          refine ev_icmp_neN 108 dX8_office_99 (by decide) (by omega) (by omega) (fun b99 => ?_) (fun b99 => by exfalso; omega)
          refine ev_aload_n (i := 0) dX8_office_108 rfl rfl ?_
          refine ev_getfield dX8_office_109 fX8_16 (by first | omega | decide) (by first | assumption | (simp (disch := omega) only [mu_s, mu_n]; first | assumption | rfl)) (by rfl) ?_
          refine ev_iload_n (i := 1) dX8_office_112 rfl rfl ?_
          refine ev_ialoadN dX8_office_113 (by first | omega | decide) (by first | assumption | (simp (disch := omega) only [mu_s, mu_n]; first | assumption | rfl)) (by omega) (by decide) ?_
          refine ev_top (i_op (upd_a rfl)) ?_
          refine ev_iconst (v := nI 2) dX8_office_114 rfl ?_
          refine ev_icmp_neN 124 dX8_office_115 (by decide) (by omega) (by omega) (fun b115 => by exfalso; omega) (fun b115 => ?_)
          refine ev_iload_n (i := 3) dX8_office_118 rfl rfl ?_
          refine ev_iconst (v := nI 1) dX8_office_119 rfl ?_
          refine ev_iaddN dX8_office_120 ?_
          refine ev_goto 125 dX8_office_121 (by decide) ?_
          refine ev_iastoreN dX8_office_125 (by first | omega | decide) (by first | assumption | (simp (disch := omega) only [mu_s, mu_n]; first | assumption | rfl)) (by omega) (by decide) ?_
          refine ev_iload_n (i := 2) dX8_office_126 rfl rfl ?_
          refine ev_iconst (v := nI 1) dX8_office_127 rfl ?_
          refine ev_iand1 dX8_office_128 ?_
          refine ev_iconst (v := nI 3) dX8_office_129 rfl ?_
          refine ev_ishlN dX8_office_130 (by omega) ?_
          refine ev_iload_n (i := 2) dX8_office_131 rfl rfl ?_
          refine ev_iconst (v := nI 2) dX8_office_132 rfl ?_
          refine ev_iandN dX8_office_133 ?_
          refine ev_iconst (v := nI 1) dX8_office_134 rfl ?_
          refine ev_ishlN dX8_office_135 (by omega) ?_
          refine ev_iorN dX8_office_136 ?_
          refine ev_iload_n (i := 2) dX8_office_137 rfl rfl ?_
          refine ev_iconst (v := nI 4) dX8_office_138 rfl ?_
          refine ev_iandN dX8_office_139 ?_
          refine ev_iconst (v := nI 1) dX8_office_140 rfl ?_
          refine ev_ishrN dX8_office_141 (and_lt31 (by decide)) (by omega) ?_
          refine ev_iorN dX8_office_142 ?_
          refine ev_iload_n (i := 2) dX8_office_143 rfl rfl ?_
          refine ev_bipush (v := nI 8) dX8_office_144 rfl ?_
          refine ev_iandN dX8_office_146 ?_
          refine ev_iconst (v := nI 3) dX8_office_147 rfl ?_
          refine ev_ishrN dX8_office_148 (and_lt31 (by decide)) (by omega) ?_
          refine ev_iorN dX8_office_149 ?_
          refine ev_top (i_op (congrArg nI tn)) ?_
          refine ev_istore (i := 4) dX8_office_150 (by decide) rfl ?_
          refine ev_aload_n (i := 0) dX8_office_152 rfl rfl ?_
          refine ev_getfield dX8_office_153 fX8_22 (by first | omega | decide) (by first | assumption | (simp (disch := omega) only [mu_s, mu_n]; first | assumption | rfl)) (by rfl) ?_
          refine ev_iload_n (i := 1) dX8_office_156 rfl rfl ?_
          refine ev_aload_n (i := 0) dX8_office_157 rfl rfl ?_
          refine ev_getfield dX8_office_158 fX8_16 (by first | omega | decide) (by first | assumption | (simp (disch := omega) only [mu_s, mu_n]; first | assumption | rfl)) (by rfl) ?_
          refine ev_iload_n (i := 1) dX8_office_161 rfl rfl ?_
          refine ev_ialoadN dX8_office_162 (by first | omega | decide) (by first | assumption | (simp (disch := omega) only [mu_s, mu_n]; first | assumption | rfl)) (by omega) (by decide) ?_
          refine ev_top (i_op (upd_a rfl)) ?_
          refine ev_iconst (v := nI 3) dX8_office_163 rfl ?_
          refine ev_icmp_neN 172 dX8_office_164 (by decide) (by omega) (by omega) (fun b164 => ?_) (fun b164 => by exfalso; omega)
          refine ev_iload_n (i := 2) dX8_office_172 rfl rfl ?_
          refine ev_aload_n (i := 0) dX8_office_173 rfl rfl ?_
          refine ev_getfield dX8_office_174 fX8_13 (by first | omega | decide) (by first | assumption | (simp (disch := omega) only [mu_s, mu_n]; first | assumption | rfl)) (by rfl) ?_
          refine ev_iload_n (i := 1) dX8_office_177 rfl rfl ?_
          refine ev_ialoadN dX8_office_178 (by first | omega | decide) (by first | assumption | (simp (disch := omega) only [mu_s, mu_n]; first | assumption | rfl)) (by omega) (by decide) ?_
          refine ev_top (i_op (upd_a rfl)) ?_
          refine ev_ishlN dX8_office_179 (by omega) ?_
          refine ev_iastoreN dX8_office_180 (by first | omega | decide) (by first | assumption | (simp (disch := omega) only [mu_s, mu_n]; first | assumption | rfl)) (by omega) (by decide) ?_
          refine ev_incN dX8_office_181 (by rfl) (by decide) rfl ?_
          refine ev_goto 27 dX8_office_184 (by decide) ?_
          exact kk _ _ _ _ _ _ (ag_mu (ag_mu (ag_mu (ag_mu (ag_rf M1 _ _) (by omega) (by omega)) (by omega) (by omega)) (by omega) (by omega)) (by omega) (by omega)) (by simp (disch := omega) only [mu_s, mu_n]) (by simp (disch := omega) only [mu_s, mu_n]) (by simp (disch := omega) only [mu_s, mu_n]) (mu_s _ _ _) F0.symm (by rw [C0])
        · have F0 : frN S H = S := by unfold frN; rw [if_neg (by omega), if_neg (by omega)]
          have C0 : mkN m H = tnN m 4 := by unfold mkN; rw [if_pos q]
          refine ev_iload_n (i := 1) dX8_office_27 rfl rfl ?_
          refine ev_aload_n (i := 0) dX8_office_28 rfl rfl ?_
          refine ev_getfield dX8_office_29 fX8_64 (by first | omega | decide) (by first | assumption | (simp (disch := omega) only [mu_s, mu_n]; first | assumption | rfl)) (by rfl) ?_
          refine ev_icmp_geN 187 dX8_office_32 (by decide) (by omega) (by omega) (fun b32 => by exfalso; omega) (fun b32 => ?_)
          refine ev_aload_n (i := 0) dX8_office_35 rfl rfl ?_
          refine ev_getfield dX8_office_36 fX8_13 (by first | omega | decide) (by first | assumption | (simp (disch := omega) only [mu_s, mu_n]; first | assumption | rfl)) (by rfl) ?_
          refine ev_iload_n (i := 1) dX8_office_39 rfl rfl ?_
          refine ev_aload_n (i := 0) dX8_office_40 rfl rfl ?_
          refine ev_getfield dX8_office_41 fX8_25 (by first | omega | decide) (by first | assumption | (simp (disch := omega) only [mu_s, mu_n]; first | assumption | rfl)) (by rfl) ?_
          refine ev_iconst (v := nI 4) dX8_office_44 rfl ?_
          refine ev_iload_n (i := 1) dX8_office_45 rfl rfl ?_
          refine ev_imulN dX8_office_46 ?_
          refine ev_ialoadN dX8_office_47 (by first | omega | decide) (by first | assumption | (simp (disch := omega) only [mu_s, mu_n]; first | assumption | rfl)) (by omega) (by decide) ?_
          refine ev_top (i_op r0) ?_
          refine ev_iastoreN dX8_office_48 (by first | omega | decide) (by first | assumption | (simp (disch := omega) only [mu_s, mu_n]; first | assumption | rfl)) (by omega) (by decide) ?_
          refine ev_aload_n (i := 0) dX8_office_49 rfl rfl ?_
          refine ev_getfield dX8_office_50 fX8_16 (by first | omega | decide) (by first | assumption | (simp (disch := omega) only [mu_s, mu_n]; first | assumption | rfl)) (by rfl) ?_
          refine ev_iload_n (i := 1) dX8_office_53 rfl rfl ?_
          refine ev_aload_n (i := 0) dX8_office_54 rfl rfl ?_
          refine ev_getfield dX8_office_55 fX8_25 (by first | omega | decide) (by first | assumption | (simp (disch := omega) only [mu_s, mu_n]; first | assumption | rfl)) (by rfl) ?_
          refine ev_iconst (v := nI 4) dX8_office_58 rfl ?_
          refine ev_iload_n (i := 1) dX8_office_59 rfl rfl ?_
          refine ev_imulN dX8_office_60 ?_
          refine ev_iconst (v := nI 3) dX8_office_61 rfl ?_
          refine ev_iaddN dX8_office_62 ?_
          refine ev_ialoadN dX8_office_63 (by first | omega | decide) (by first | assumption | (simp (disch := omega) only [mu_s, mu_n]; first | assumption | rfl)) (by omega) (by decide) ?_
          refine ev_top (i_op r3) ?_
          refine ev_iastoreN dX8_office_64 (by first | omega | decide) (by first | assumption | (simp (disch := omega) only [mu_s, mu_n]; first | assumption | rfl)) (by omega) (by decide) ?_
          refine ev_aload_n (i := 0) dX8_office_65 rfl rfl ?_
          refine ev_getfield dX8_office_66 fX8_25 (by first | omega | decide) (by first | assumption | (simp (disch := omega) only [mu_s, mu_n]; first | assumption | rfl)) (by rfl) ?_
          refine ev_iconst (v := nI 4) dX8_office_69 rfl ?_
          refine ev_iload_n (i := 1) dX8_office_70 rfl rfl ?_
          refine ev_imulN dX8_office_71 ?_
          refine ev_iconst (v := nI 1) dX8_office_72 rfl ?_
          refine ev_iaddN dX8_office_73 ?_
          refine ev_ialoadN dX8_office_74 (by first | omega | decide) (by first | assumption | (simp (disch := omega) only [mu_s, mu_n]; first | assumption | rfl)) (by omega) (by decide) ?_
          refine ev_top (i_op r1) ?_
          refine ev_istore_n (i := 2) dX8_office_75 rfl (by decide) rfl ?_
          refine ev_aload_n (i := 0) dX8_office_76 rfl rfl ?_
          refine ev_getfield dX8_office_77 fX8_25 (by first | omega | decide) (by first | assumption | (simp (disch := omega) only [mu_s, mu_n]; first | assumption | rfl)) (by rfl) ?_
          refine ev_iconst (v := nI 4) dX8_office_80 rfl ?_
          refine ev_iload_n (i := 1) dX8_office_81 rfl rfl ?_
          refine ev_imulN dX8_office_82 ?_
          refine ev_iconst (v := nI 2) dX8_office_83 rfl ?_
          refine ev_iaddN dX8_office_84 ?_
          refine ev_ialoadN dX8_office_85 (by first | omega | decide) (by first | assumption | (simp (disch := omega) only [mu_s, mu_n]; first | assumption | rfl)) (by omega) (by decide) ?_
          refine ev_top (i_op r2) ?_
          refine ev_istore_n (i := 3) dX8_office_86 rfl (by decide) rfl ?_
          refine ev_aload_n (i := 0) dX8_office_87 rfl rfl ?_
          refine ev_getfield dX8_office_88 fX8_19 (by first | omega | decide) (by first | assumption | (simp (disch := omega) only [mu_s, mu_n]; first | assumption | rfl)) (by rfl) ?_
          refine ev_iload_n (i := 1) dX8_office_91 rfl rfl ?_
          refine ev_aload_n (i := 0) dX8_office_92 rfl rfl ?_
          refine ev_getfield dX8_office_93 fX8_16 (by first | omega | decide) (by first | assumption | (simp (disch := omega) only [mu_s, mu_n]; first | assumption | rfl)) (by rfl) ?_
          refine ev_iload_n (i := 1) dX8_office_96 rfl rfl ?_
          refine ev_ialoadN dX8_office_97 (by first | omega | decide) (by first | assumption | (simp (disch := omega) only [mu_s, mu_n]; first | assumption | rfl)) (by omega) (by decide) ?_
          refine ev_top (i_op (upd_a rfl)) ?_
          refine ev_iconst (v := nI 1) dX8_office_98 rfl ?_
          refine ev_icmp_neN 108 dX8_office_99 (by decide) (by omega) (by omega) (fun b99 => ?_) (fun b99 => by exfalso; omega)
          refine ev_aload_n (i := 0) dX8_office_108 rfl rfl ?_
          refine ev_getfield dX8_office_109 fX8_16 (by first | omega | decide) (by first | assumption | (simp (disch := omega) only [mu_s, mu_n]; first | assumption | rfl)) (by rfl) ?_
          refine ev_iload_n (i := 1) dX8_office_112 rfl rfl ?_
          refine ev_ialoadN dX8_office_113 (by first | omega | decide) (by first | assumption | (simp (disch := omega) only [mu_s, mu_n]; first | assumption | rfl)) (by omega) (by decide) ?_
          refine ev_top (i_op (upd_a rfl)) ?_
          refine ev_iconst (v := nI 2) dX8_office_114 rfl ?_
          refine ev_icmp_neN 124 dX8_office_115 (by decide) (by omega) (by omega) (fun b115 => ?_) (fun b115 => by exfalso; omega)
          refine ev_iload_n (i := 3) dX8_office_124 rfl rfl ?_
          refine ev_iastoreN dX8_office_125 (by first | omega | decide) (by first | assumption | (simp (disch := omega) only [mu_s, mu_n]; first | assumption | rfl)) (by omega) (by decide) ?_
          refine ev_iload_n (i := 2) dX8_office_126 rfl rfl ?_
          refine ev_iconst (v := nI 1) dX8_office_127 rfl ?_
          refine ev_iand1 dX8_office_128 ?_
          refine ev_iconst (v := nI 3) dX8_office_129 rfl ?_
          refine ev_ishlN dX8_office_130 (by omega) ?_
          refine ev_iload_n (i := 2) dX8_office_131 rfl rfl ?_
          refine ev_iconst (v := nI 2) dX8_office_132 rfl ?_
          refine ev_iandN dX8_office_133 ?_
          refine ev_iconst (v := nI 1) dX8_office_134 rfl ?_
          refine ev_ishlN dX8_office_135 (by omega) ?_
          refine ev_iorN dX8_office_136 ?_
          refine ev_iload_n (i := 2) dX8_office_137 rfl rfl ?_
          refine ev_iconst (v := nI 4) dX8_office_138 rfl ?_
          refine ev_iandN dX8_office_139 ?_
          refine ev_iconst (v := nI 1) dX8_office_140 rfl ?_
          refine ev_ishrN dX8_office_141 (and_lt31 (by decide)) (by omega) ?_
          refine ev_iorN dX8_office_142 ?_
          refine ev_iload_n (i := 2) dX8_office_143 rfl rfl ?_
          refine ev_bipush (v := nI 8) dX8_office_144 rfl ?_
          refine ev_iandN dX8_office_146 ?_
          refine ev_iconst (v := nI 3) dX8_office_147 rfl ?_
          refine ev_ishrN dX8_office_148 (and_lt31 (by decide)) (by omega) ?_
          refine ev_iorN dX8_office_149 ?_
          refine ev_top (i_op (congrArg nI tn)) ?_
          refine ev_istore (i := 4) dX8_office_150 (by decide) rfl ?_
          refine ev_aload_n (i := 0) dX8_office_152 rfl rfl ?_
          refine ev_getfield dX8_office_153 fX8_22 (by first | omega | decide) (by first | assumption | (simp (disch := omega) only [mu_s, mu_n]; first | assumption | rfl)) (by rfl) ?_
          refine ev_iload_n (i := 1) dX8_office_156 rfl rfl ?_
          refine ev_aload_n (i := 0) dX8_office_157 rfl rfl ?_
          refine ev_getfield dX8_office_158 fX8_16 (by first | omega | decide) (by first | assumption | (simp (disch := omega) only [mu_s, mu_n]; first | assumption | rfl)) (by rfl) ?_
          refine ev_iload_n (i := 1) dX8_office_161 rfl rfl ?_
          refine ev_ialoadN dX8_office_162 (by first | omega | decide) (by first | assumption | (simp (disch := omega) only [mu_s, mu_n]; first | assumption | rfl)) (by omega) (by decide) ?_
          refine ev_top (i_op (upd_a rfl)) ?_
          refine ev_iconst (v := nI 3) dX8_office_163 rfl ?_
          refine ev_icmp_neN 172 dX8_office_164 (by decide) (by omega) (by omega) (fun b164 => by exfalso; omega) (fun b164 => ?_)
          refine ev_iload (i := 4) dX8_office_167 rfl ?_
          refine ev_goto 173 dX8_office_169 (by decide) ?_
          refine ev_aload_n (i := 0) dX8_office_173 rfl rfl ?_
          refine ev_getfield dX8_office_174 fX8_13 (by first | omega | decide) (by first | assumption | (simp (disch := omega) only [mu_s, mu_n]; first | assumption | rfl)) (by rfl) ?_
          refine ev_iload_n (i := 1) dX8_office_177 rfl rfl ?_
          refine ev_ialoadN dX8_office_178 (by first | omega | decide) (by first | assumption | (simp (disch := omega) only [mu_s, mu_n]; first | assumption | rfl)) (by omega) (by decide) ?_
          refine ev_top (i_op (upd_a rfl)) ?_
          refine ev_ishlN dX8_office_179 (by omega) ?_
          refine ev_iastoreN dX8_office_180 (by first | omega | decide) (by first | assumption | (simp (disch := omega) only [mu_s, mu_n]; first | assumption | rfl)) (by omega) (by decide) ?_
          refine ev_incN dX8_office_181 (by rfl) (by decide) rfl ?_
          refine ev_goto 27 dX8_office_184 (by decide) ?_
          exact kk _ _ _ _ _ _ (ag_mu (ag_mu (ag_mu (ag_mu (ag_rf M1 _ _) (by omega) (by omega)) (by omega) (by omega)) (by omega) (by omega)) (by omega) (by omega)) (by simp (disch := omega) only [mu_s, mu_n]) (by simp (disch := omega) only [mu_s, mu_n]) (by simp (disch := omega) only [mu_s, mu_n]) (mu_s _ _ _) F0.symm (by rw [C0])
        · have F0 : frN S H = S := by unfold frN; rw [if_neg (by omega), if_neg (by omega)]
          have C0 : mkN m H = m := by unfold mkN; rw [if_neg (by omega)]
          refine ev_iload_n (i := 1) dX8_office_27 rfl rfl ?_
          refine ev_aload_n (i := 0) dX8_office_28 rfl rfl ?_
          refine ev_getfield dX8_office_29 fX8_64 (by first | omega | decide) (by first | assumption | (simp (disch := omega) only [mu_s, mu_n]; first | assumption | rfl)) (by rfl) ?_
          refine ev_icmp_geN 187 dX8_office_32 (by decide) (by omega) (by omega) (fun b32 => by exfalso; omega) (fun b32 => ?_)
          refine ev_aload_n (i := 0) dX8_office_35 rfl rfl ?_
          refine ev_getfield dX8_office_36 fX8_13 (by first | omega | decide) (by first | assumption | (simp (disch := omega) only [mu_s, mu_n]; first | assumption | rfl)) (by rfl) ?_
          refine ev_iload_n (i := 1) dX8_office_39 rfl rfl ?_
          refine ev_aload_n (i := 0) dX8_office_40 rfl rfl ?_
          refine ev_getfield dX8_office_41 fX8_25 (by first | omega | decide) (by first | assumption | (simp (disch := omega) only [mu_s, mu_n]; first | assumption | rfl)) (by rfl) ?_
          refine ev_iconst (v := nI 4) dX8_office_44 rfl ?_
          refine ev_iload_n (i := 1) dX8_office_45 rfl rfl ?_
          refine ev_imulN dX8_office_46 ?_
          refine ev_ialoadN dX8_office_47 (by first | omega | decide) (by first | assumption | (simp (disch := omega) only [mu_s, mu_n]; first | assumption | rfl)) (by omega) (by decide) ?_
          refine ev_top (i_op r0) ?_
          refine ev_iastoreN dX8_office_48 (by first | omega | decide) (by first | assumption | (simp (disch := omega) only [mu_s, mu_n]; first | assumption | rfl)) (by omega) (by decide) ?_
          refine ev_aload_n (i := 0) dX8_office_49 rfl rfl ?_
          refine ev_getfield dX8_office_50 fX8_16 (by first | omega | decide) (by first | assumption | (simp (disch := omega) only [mu_s, mu_n]; first | assumption | rfl)) (by rfl) ?_
          refine ev_iload_n (i := 1) dX8_office_53 rfl rfl ?_
          refine ev_aload_n (i := 0) dX8_office_54 rfl rfl ?_
          refine ev_getfield dX8_office_55 fX8_25 (by first | omega | decide) (by first | assumption | (simp (disch := omega) only [mu_s, mu_n]; first | assumption | rfl)) (by rfl) ?_
          refine ev_iconst (v := nI 4) dX8_office_58 rfl ?_
          refine ev_iload_n (i := 1) dX8_office_59 rfl rfl ?_
          refine ev_imulN dX8_office_60 ?_
          refine ev_iconst (v := nI 3) dX8_office_61 rfl ?_
          refine ev_iaddN dX8_office_62 ?_
          refine ev_ialoadN dX8_office_63 (by first | omega | decide) (by first | assumption | (simp (disch := omega) only [mu_s, mu_n]; first | assumption | rfl)) (by omega) (by decide) ?_
          refine ev_top (i_op r3) ?_
          refine ev_iastoreN dX8_office_64 (by first | omega | decide) (by first | assumption | (simp (disch := omega) only [mu_s, mu_n]; first | assumption | rfl)) (by omega) (by decide) ?_
          refine ev_aload_n (i := 0) dX8_office_65 rfl rfl ?_
          refine ev_getfield dX8_office_66 fX8_25 (by first | omega | decide) (by first | assumption | (simp (disch := omega) only [mu_s, mu_n]; first | assumption | rfl)) (by rfl) ?_
          refine ev_iconst (v := nI 4) dX8_office_69 rfl ?_
          refine ev_iload_n (i := 1) dX8_office_70 rfl rfl ?_
          refine ev_imulN dX8_office_71 ?_
          refine ev_iconst (v := nI 1) dX8_office_72 rfl ?_
          refine ev_iaddN dX8_office_73 ?_
          refine ev_ialoadN dX8_office_74 (by first | omega | decide) (by first | assumption | (simp (disch := omega) only [mu_s, mu_n]; first | assumption | rfl)) (by omega) (by decide) ?_
          refine ev_top (i_op r1) ?_
          refine ev_istore_n (i := 2) dX8_office_75 rfl (by decide) rfl ?_
          refine ev_aload_n (i := 0) dX8_office_76 rfl rfl ?_
          refine ev_getfield dX8_office_77 fX8_25 (by first | omega | decide) (by first | assumption | (simp (disch := omega) only [mu_s, mu_n]; first | assumption | rfl)) (by rfl) ?_
          refine ev_iconst (v := nI 4) dX8_office_80 rfl ?_
          refine ev_iload_n (i := 1) dX8_office_81 rfl rfl ?_
          refine ev_imulN dX8_office_82 ?_
          refine ev_iconst (v := nI 2) dX8_office_83 rfl ?_
          refine ev_iaddN dX8_office_84 ?_
          refine ev_ialoadN dX8_office_85 (by first | omega | decide) (by first | assumption | (simp (disch := omega) only [mu_s, mu_n]; first | assumption | rfl)) (by omega) (by decide) ?_
          refine ev_top (i_op r2) ?_
          refine ev_istore_n (i := 3) dX8_office_86 rfl (by decide) rfl ?_
          refine ev_aload_n (i := 0) dX8_office_87 rfl rfl ?_
          refine ev_getfield dX8_office_88 fX8_19 (by first | omega | decide) (by first | assumption | (simp (disch := omega) only [mu_s, mu_n]; first | assumption | rfl)) (by rfl) ?_
          refine ev_iload_n (i := 1) dX8_office_91 rfl rfl ?_
          refine ev_aload_n (i := 0) dX8_office_92 rfl rfl ?_
          refine ev_getfield dX8_office_93 fX8_16 (by first | omega | decide) (by first | assumption | (simp (disch := omega) only [mu_s, mu_n]; first | assumption | rfl)) (by rfl) ?_
          refine ev_iload_n (i := 1) dX8_office_96 rfl rfl ?_
          refine ev_ialoadN dX8_office_97 (by first | omega | decide) (by first | assumption | (simp (disch := omega) only [mu_s, mu_n]; first | assumption | rfl)) (by omega) (by decide) ?_
          refine ev_top (i_op (upd_a rfl)) ?_
          refine ev_iconst (v := nI 1) dX8_office_98 rfl ?_
          refine ev_icmp_neN 108 dX8_office_99 (by decide) (by omega) (by omega) (fun b99 => ?_) (fun b99 => by exfalso; omega)
          refine ev_aload_n (i := 0) dX8_office_108 rfl rfl ?_
          refine ev_getfield dX8_office_109 fX8_16 (by first | omega | decide) (by first | assumption | (simp (disch := omega) only [mu_s, mu_n]; first | assumption | rfl)) (by rfl) ?_
          refine ev_iload_n (i := 1) dX8_office_112 rfl rfl ?_
          refine ev_ialoadN dX8_office_113 (by first | omega | decide) (by first | assumption | (simp (disch := omega) only [mu_s, mu_n]; first | assumption | rfl)) (by omega) (by decide) ?_
          refine ev_top (i_op (upd_a rfl)) ?_
          refine ev_iconst (v := nI 2) dX8_office_114 rfl ?_
          refine ev_icmp_neN 124 dX8_office_115 (by decide) (by omega) (by omega) (fun b115 => ?_) (fun b115 => by exfalso; omega)
          refine ev_iload_n (i := 3) dX8_office_124 rfl rfl ?_
          refine ev_iastoreN dX8_office_125 (by first | omega | decide) (by first | assumption | (simp (disch := omega) only [mu_s, mu_n]; first | assumption | rfl)) (by omega) (by decide) ?_
          refine ev_iload_n (i := 2) dX8_office_126 rfl rfl ?_
          refine ev_iconst (v := nI 1) dX8_office_127 rfl ?_
          refine ev_iand1 dX8_office_128 ?_
          refine ev_iconst (v := nI 3) dX8_office_129 rfl ?_
          refine ev_ishlN dX8_office_130 (by omega) ?_
          refine ev_iload_n (i := 2) dX8_office_131 rfl rfl ?_
          refine ev_iconst (v := nI 2) dX8_office_132 rfl ?_
          refine ev_iandN dX8_office_133 ?_
          refine ev_iconst (v := nI 1) dX8_office_134 rfl ?_
          refine ev_ishlN dX8_office_135 (by omega) ?_
          refine ev_iorN dX8_office_136 ?_
          refine ev_iload_n (i := 2) dX8_office_137 rfl rfl ?_
          refine ev_iconst (v := nI 4) dX8_office_138 rfl ?_
          refine ev_iandN dX8_office_139 ?_
          refine ev_iconst (v := nI 1) dX8_office_140 rfl ?_
          refine ev_ishrN dX8_office_141 (and_lt31 (by decide)) (by omega) ?_
          refine ev_iorN dX8_office_142 ?_
          refine ev_iload_n (i := 2) dX8_office_143 rfl rfl ?_
          refine ev_bipush (v := nI 8) dX8_office_144 rfl ?_
          refine ev_iandN dX8_office_146 ?_
          refine ev_iconst (v := nI 3) dX8_office_147 rfl ?_
          refine ev_ishrN dX8_office_148 (and_lt31 (by decide)) (by omega) ?_
          refine ev_iorN dX8_office_149 ?_
          refine ev_top (i_op (congrArg nI tn)) ?_
          refine ev_istore (i := 4) dX8_office_150 (by decide) rfl ?_
          refine ev_aload_n (i := 0) dX8_office_152 rfl rfl ?_
          refine ev_getfield dX8_office_153 fX8_22 (by first | omega | decide) (by first | assumption | (simp (disch := omega) only [mu_s, mu_n]; first | assumption | rfl)) (by rfl) ?_
          refine ev_iload_n (i := 1) dX8_office_156 rfl rfl ?_
          refine ev_aload_n (i := 0) dX8_office_157 rfl rfl ?_
          refine ev_getfield dX8_office_158 fX8_16 (by first | omega | decide) (by first | assumption | (simp (disch := omega) only [mu_s, mu_n]; first | assumption | rfl)) (by rfl) ?_
          refine ev_iload_n (i := 1) dX8_office_161 rfl rfl ?_
          refine ev_ialoadN dX8_office_162 (by first | omega | decide) (by first | assumption | (simp (disch := omega) only [mu_s, mu_n]; first | assumption | rfl)) (by omega) (by decide) ?_
          refine ev_top (i_op (upd_a rfl)) ?_
          refine ev_iconst (v := nI 3) dX8_office_163 rfl ?_
          refine ev_icmp_neN 172 dX8_office_164 (by decide) (by omega) (by omega) (fun b164 => ?_) (fun b164 => by exfalso; omega)
          refine ev_iload_n (i := 2) dX8_office_172 rfl rfl ?_
          refine ev_aload_n (i := 0) dX8_office_173 rfl rfl ?_
          refine ev_getfield dX8_office_174 fX8_13 (by first | omega | decide) (by first | assumption | (simp (disch := omega) only [mu_s, mu_n]; first | assumption | rfl)) (by rfl) ?_
          refine ev_iload_n (i := 1) dX8_office_177 rfl rfl ?_
          refine ev_ialoadN dX8_office_178 (by first | omega | decide) (by first | assumption | (simp (disch := omega) only [mu_s, mu_n]; first | assumption | rfl)) (by omega) (by decide) ?_
          refine ev_top (i_op (upd_a rfl)) ?_
          refine ev_ishlN dX8_office_179 (by omega) ?_
          refine ev_iastoreN dX8_office_180 (by first | omega | decide) (by first | assumption | (simp (disch := omega) only [mu_s, mu_n]; first | assumption | rfl)) (by omega) (by decide) ?_
          refine ev_incN dX8_office_181 (by rfl) (by decide) rfl ?_
          refine ev_goto 27 dX8_office_184 (by decide) ?_
          exact kk _ _ _ _ _ _ (ag_mu (ag_mu (ag_mu (ag_mu (ag_rf M1 _ _) (by omega) (by omega)) (by omega) (by omega)) (by omega) (by omega)) (by omega) (by omega)) (by simp (disch := omega) only [mu_s, mu_n]) (by simp (disch := omega) only [mu_s, mu_n]) (by simp (disch := omega) only [mu_s, mu_n]) (mu_s _ _ _) F0.symm (by rw [C0])
    refine ev_aload_n (i := 0) dX8_office_5 rfl rfl ?_
    refine ev_V0 (μ1 := mX8_readOffice) dX8_office_6 sX8_88 okX8_readOffice (by first | omega | decide) (by first | assumption | (simp (disch := omega) only [mu_s, mu_n]; first | assumption | rfl)) (Nat.le_of_ble_eq_true rfl) (Nat.le_of_ble_eq_true rfl) ?_
    refine c_readOffice hO hR o1 (fun M1 e1 ha hO1 hR1 hz => ?_)
    obtain ⟨q2, f1, y78, hfa⟩ := hz hf
    rw [hf]
    have y0 := hO1
    unfold kO at y0
    refine ev_bipush (v := (-9)) dX8_office_9 rfl ?_
    refine ev_icmp_eq 17 dX8_office_11 (by decide) (fun b11 => ?_) (fun b11 => absurd rfl b11)
    refine ev_aload_n (i := 0) dX8_office_17 rfl rfl ?_
    refine ev_aload_n (i := 0) dX8_office_18 rfl rfl ?_
    refine ev_getfield dX8_office_19 fX8_81 (by first | omega | decide) (by first | assumption | (simp (disch := omega) only [mu_s, mu_n]; first | assumption | rfl)) (by rfl) ?_
    refine ev_top (i_op q2) ?_
    refine ev_putI dX8_office_22 fwX8_64 (by first | omega | decide) (by first | assumption | (simp (disch := omega) only [mu_s, mu_n]; first | assumption | rfl)) (Nat.le_of_ble_eq_true rfl) ?_
    refine ev_iconst (v := nI 0) dX8_office_25 rfl ?_
    refine ev_istore_n (i := 1) dX8_office_26 rfl (by decide) rfl ?_
    refine lp n 0 _ e1 f1 _ _ _ (by omega) (ag_mu ha (by omega) (by omega)) (by rw [hn]; exact mu_s _ _ _) (kR_ob (kR_lt (l1 := (0, (ltOf t).2)) hR1 (ag_rf M1 _ _) ?_) (ag_mu (ag_rf M1 _ _) (by omega) (by omega))) ((mu_n (by omega)).trans y78) (by rw [hn]; exact hfa)
    obtain ⟨⟨fa, xa, -⟩, ⟨fb, xb, -⟩, ⟨fc, xc, -⟩, ⟨fd, xd, -⟩⟩ := hR1.2.1
    exact ⟨⟨fa, xa, fun j hj => absurd hj (Nat.not_lt_zero j)⟩, ⟨fb, xb, fun j hj => absurd hj (Nat.not_lt_zero j)⟩, ⟨fc, xc, fun j hj => absurd hj (Nat.not_lt_zero j)⟩, ⟨fd, xd, fun j hj => absurd hj (Nat.not_lt_zero j)⟩⟩
end MEB
