theorem kR_x {M M1 : mM} {s : cs} (h : kR M s) (hg : ag M M1 78 79) (hn : ∃ f, M1 78 = .inl (0, 24, .inl f)) : kR M1 s := by
  obtain ⟨h2, h3, h4, ⟨q, h5⟩, h6, h7, h8, ⟨-, ⟨f2, h9⟩, f3, h10⟩⟩ := h
  exact ⟨arr_ag h2 hg (by omega), kML_ag h3 hg (by omega), kG_ag h4 hg (by omega), ⟨q, kG_ag h5 hg (by omega)⟩, kBk_ag h6 hg (by omega), kKp_ag h7 hg (by omega), kMV_ag h8 hg (by omega), ⟨hn, ⟨f2, (hg _ (by omega)).trans h9⟩, f3, (hg _ (by omega)).trans h10⟩⟩
theorem fg_in {b lo hi : Nat} (hb : b < 256) (hl : lo < 2 ^ 30) (hh : hi < 2 ^ 30) : (decide ((nI lo).toInt64 ≤ (nI b - nI 48).toInt64) && decide ((nI b - nI 48).toInt64 ≤ (nI hi).toInt64)) = fgB b lo hi := by
  unfold fgB
  rw [Bool.eq_iff_iff]
  simp only [Bool.and_eq_true, decide_eq_true_eq, Int64.le_iff_toInt_le, Int32.toInt_toInt64, nI_toInt (show lo < 2 ^ 31 by omega), nI_toInt (show hi < 2 ^ 31 by omega), pk_sub_toInt (show b < 2 ^ 30 by omega) (show 48 < 2 ^ 30 by decide)]
  omega
theorem flt_i {t : tx} {n : Nat} (h : ∀ i, i < n → rtB t i = true) (hn : n < t.1) (hf : rtB t n = false) : fltN t = some n := by
  have key : ∀ (j c : Nat), c + j = t.1 → c ≤ n → lf (fun i => !rtB t i) j c = some n := by
    intro j
    induction j with
    | zero => intro c hc hcn; omega
    | succ j ih =>
      intro c hc hcn
      by_cases z : c = n
      · subst z; exact lf_t (by rw [hf]; rfl)
      · rw [lf_f (by rw [h c (by omega)]; rfl)]; exact ih (c + 1) (by omega) (by omega)
  unfold fltN
  rw [key t.1 0 (by omega) (by omega)]
theorem flt_a {t : tx} (h : ∀ i, i < t.1 → rtB t i = true) : fltN t = if 0 < t.1 ∧ (t.1 - 1) % 5 = 0 then none else some t.1 := by
  have key : ∀ (j c : Nat), c + j = t.1 → lf (fun i => !rtB t i) j c = none := by
    intro j
    induction j with
    | zero => intro c hc; rfl
    | succ j ih =>
      intro c hc
      rw [lf_f (by rw [h c (by omega)]; rfl)]; exact ih (c + 1) (by omega)
  unfold fltN
  rw [key t.1 0 (by omega)]
theorem rt_0 {t : tx} {c : Nat} (hc : c < 6) : rtB t (5 * c + 1) = decide (t.2 (5 * c + 1) = 76) := by
  unfold rtB; rw [if_neg (by omega), if_neg (by omega), show (5 * c + 1 - 1) % 5 = 0 by omega]; rfl
theorem rt_6 {t : tx} : rtB t 31 = false := by unfold rtB; rw [if_neg (by decide), if_pos (by decide)]

theorem rt_1 {t : tx} {c : Nat} (hc : c < 6) : rtB t (5 * c + 2 + 0) = fgB (t.2 (5 * c + 2 + 0)) 0 8 := by
  unfold rtB; rw [if_neg (by omega), if_neg (by omega), show (5 * c + 2 + 0 - 1) % 5 = 1 by omega]; rfl
theorem rt_2 {t : tx} {c : Nat} (hc : c < 6) : rtB t (5 * c + 2 + 1) = fgB (t.2 (5 * c + 2 + 1)) 1 9 := by
  unfold rtB; rw [if_neg (by omega), if_neg (by omega), show (5 * c + 2 + 1 - 1) % 5 = 2 by omega]; rfl
theorem rt_3 {t : tx} {c : Nat} (hc : c < 6) : rtB t (5 * c + 2 + 2) = fgB (t.2 (5 * c + 2 + 2)) 1 3 := by
  unfold rtB; rw [if_neg (by omega), if_neg (by omega), show (5 * c + 2 + 2 - 1) % 5 = 3 by omega]; rfl
theorem rt_4 {t : tx} {c : Nat} (hc : c < 6) : rtB t (5 * c + 2 + 3) = fgB (t.2 (5 * c + 2 + 3)) 0 3 := by
  unfold rtB; rw [if_neg (by omega), if_neg (by omega), show (5 * c + 2 + 3 - 1) % 5 = 4 by omega]; rfl
section MEA
variable {d : Nat} {M : mM} {P : Option Value → mM → Prop}
theorem c_figure {e : Nat → Int32} {t : tx} {lc ac vc pl lo hi : Nat} {sd : Int64} (x0 : kO M e t.1 lc ac vc sd) (hT : arr M 73 40 t.1 t.2) (ho : txOk t) (he : e 1 = nI pl) (hpl : pl ≤ t.1) (hlo : lo < 2 ^ 30) (hhi : hi < 2 ^ 30) (hn : (pl = t.1 ∨ (pl < t.1 ∧ fgB (t.2 pl) lo hi = false)) → P (some (.int (-9))) M) (hy : pl < t.1 → fgB (t.2 pl) lo hi = true → ∀ M1, ag M M1 72 73 → kO M1 (eS e 1 (nI (pl + 1))) t.1 lc ac vc sd → P (some (.int (nI (t.2 pl - 48)))) M1) : Ev 88 (d + 1) mX8_figure none 0 [.ref 72, .int (nI lo), .int (nI hi)] [] M P := by
  unfold kO at x0
  have h40 := ho.1
  obtain ⟨f, f1, f2⟩ := hT
  by_cases h0 : pl = t.1
  · skip
    refine ev_aload_n (i := 0) dX8_figure_0 rfl rfl ?_
    refine ev_getfield dX8_figure_1 fX8_78 (by first | omega | decide) (by first | assumption | (simp (disch := omega) only [mu_s, mu_n]; first | assumption | rfl)) (by rfl) ?_
    refine ev_top (i_op he) ?_
    refine ev_aload_n (i := 0) dX8_figure_4 rfl rfl ?_
    refine ev_getfield dX8_figure_5 fX8_75 (by first | omega | decide) (by first | assumption | (simp (disch := omega) only [mu_s, mu_n]; first | assumption | rfl)) (by rfl) ?_
    refine ev_icmp_eqN 34 dX8_figure_8 (by decide) (by omega) (by omega) (fun b8 => ?_) (fun b8 => by exfalso; omega)
    refine ev_bipush (v := (-9)) dX8_figure_34 rfl ?_
    refine ev_reti dX8_figure_36 rfl rfl ?_
    exact hn (Or.inl h0)
  · have hlt : pl < t.1 := by omega
    have hb := ho.2 pl hlt
    have hfp := f2 pl hlt
    cases hf : fgB (t.2 pl) lo hi with
    | false =>
      refine ev_aload_n (i := 0) dX8_figure_0 rfl rfl ?_
      refine ev_getfield dX8_figure_1 fX8_78 (by first | omega | decide) (by first | assumption | (simp (disch := omega) only [mu_s, mu_n]; first | assumption | rfl)) (by rfl) ?_
      refine ev_top (i_op he) ?_
      refine ev_aload_n (i := 0) dX8_figure_4 rfl rfl ?_
      refine ev_getfield dX8_figure_5 fX8_75 (by first | omega | decide) (by first | assumption | (simp (disch := omega) only [mu_s, mu_n]; first | assumption | rfl)) (by rfl) ?_
      refine ev_icmp_eqN 34 dX8_figure_8 (by decide) (by omega) (by omega) (fun b8 => by exfalso; omega) (fun b8 => ?_)
      refine ev_aload_n (i := 0) dX8_figure_11 rfl rfl ?_
      refine ev_getfield dX8_figure_12 fX8_7 (by first | omega | decide) (by first | assumption | (simp (disch := omega) only [mu_s, mu_n]; first | assumption | rfl)) (by rfl) ?_
      refine ev_aload_n (i := 0) dX8_figure_15 rfl rfl ?_
      refine ev_getfield dX8_figure_16 fX8_78 (by first | omega | decide) (by first | assumption | (simp (disch := omega) only [mu_s, mu_n]; first | assumption | rfl)) (by rfl) ?_
      refine ev_top (i_op he) ?_
      refine ev_ialoadN dX8_figure_19 (by first | omega | decide) (by first | assumption | (simp (disch := omega) only [mu_s, mu_n]; first | assumption | rfl)) (by omega) (by decide) ?_
      refine ev_top (i_op hfp) ?_
      refine ev_bipush (v := nI 48) dX8_figure_20 rfl ?_
      refine ev_isub dX8_figure_22 ?_
      refine ev_i2l dX8_figure_23 rfl ?_
      refine ev_iload_n (i := 1) dX8_figure_24 rfl rfl ?_
      refine ev_i2l dX8_figure_25 rfl ?_
      refine ev_iload_n (i := 2) dX8_figure_26 rfl rfl ?_
      refine ev_i2l dX8_figure_27 rfl ?_
      refine ev_S3 (μ1 := mX8_in) dX8_figure_28 sX8_67 okX8_in (Nat.le_of_ble_eq_true rfl) (Nat.le_of_ble_eq_true rfl) ?_
      refine c_in ?_
      refine ev_top (i_op (congrArg bI ((fg_in hb hlo hhi).trans hf))) ?_
      refine ev_if_neB 37 dX8_figure_31 (by decide) (fun b31 => by cases b31) (fun b31 => ?_)
      refine ev_bipush (v := (-9)) dX8_figure_34 rfl ?_
      refine ev_reti dX8_figure_36 rfl rfl ?_
      exact hn (Or.inr ⟨hlt, hf⟩)
    | true =>
      have h48 := (fg_t hf).1
      refine ev_aload_n (i := 0) dX8_figure_0 rfl rfl ?_
      refine ev_getfield dX8_figure_1 fX8_78 (by first | omega | decide) (by first | assumption | (simp (disch := omega) only [mu_s, mu_n]; first | assumption | rfl)) (by rfl) ?_
      refine ev_top (i_op he) ?_
      refine ev_aload_n (i := 0) dX8_figure_4 rfl rfl ?_
      refine ev_getfield dX8_figure_5 fX8_75 (by first | omega | decide) (by first | assumption | (simp (disch := omega) only [mu_s, mu_n]; first | assumption | rfl)) (by rfl) ?_
      refine ev_icmp_eqN 34 dX8_figure_8 (by decide) (by omega) (by omega) (fun b8 => by exfalso; omega) (fun b8 => ?_)
      refine ev_aload_n (i := 0) dX8_figure_11 rfl rfl ?_
      refine ev_getfield dX8_figure_12 fX8_7 (by first | omega | decide) (by first | assumption | (simp (disch := omega) only [mu_s, mu_n]; first | assumption | rfl)) (by rfl) ?_
      refine ev_aload_n (i := 0) dX8_figure_15 rfl rfl ?_
      refine ev_getfield dX8_figure_16 fX8_78 (by first | omega | decide) (by first | assumption | (simp (disch := omega) only [mu_s, mu_n]; first | assumption | rfl)) (by rfl) ?_
      refine ev_top (i_op he) ?_
      refine ev_ialoadN dX8_figure_19 (by first | omega | decide) (by first | assumption | (simp (disch := omega) only [mu_s, mu_n]; first | assumption | rfl)) (by omega) (by decide) ?_
      refine ev_top (i_op hfp) ?_
      refine ev_bipush (v := nI 48) dX8_figure_20 rfl ?_
      refine ev_isub dX8_figure_22 ?_
      refine ev_i2l dX8_figure_23 rfl ?_
      refine ev_iload_n (i := 1) dX8_figure_24 rfl rfl ?_
      refine ev_i2l dX8_figure_25 rfl ?_
      refine ev_iload_n (i := 2) dX8_figure_26 rfl rfl ?_
      refine ev_i2l dX8_figure_27 rfl ?_
      refine ev_S3 (μ1 := mX8_in) dX8_figure_28 sX8_67 okX8_in (Nat.le_of_ble_eq_true rfl) (Nat.le_of_ble_eq_true rfl) ?_
      refine c_in ?_
      refine ev_top (i_op (congrArg bI ((fg_in hb hlo hhi).trans hf))) ?_
      refine ev_if_neB 37 dX8_figure_31 (by decide) (fun b31 => ?_) (fun b31 => by cases b31)
      refine ev_aload_n (i := 0) dX8_figure_37 rfl rfl ?_
      refine ev_dup dX8_figure_38 rfl ?_
      refine ev_getfield dX8_figure_39 fX8_78 (by first | omega | decide) (by first | assumption | (simp (disch := omega) only [mu_s, mu_n]; first | assumption | rfl)) (by rfl) ?_
      refine ev_top (i_op he) ?_
      refine ev_iconst (v := nI 1) dX8_figure_42 rfl ?_
      refine ev_iaddN dX8_figure_43 ?_
      refine ev_putI dX8_figure_44 fwX8_78 (by first | omega | decide) (by first | assumption | (simp (disch := omega) only [mu_s, mu_n]; first | assumption | rfl)) (Nat.le_of_ble_eq_true rfl) ?_
      refine ev_aload_n (i := 0) dX8_figure_47 rfl rfl ?_
      refine ev_getfield dX8_figure_48 fX8_7 (by first | omega | decide) (by first | assumption | (simp (disch := omega) only [mu_s, mu_n]; first | assumption | rfl)) (by rfl) ?_
      refine ev_aload_n (i := 0) dX8_figure_51 rfl rfl ?_
      refine ev_getfield dX8_figure_52 fX8_78 (by first | omega | decide) (by first | assumption | (simp (disch := omega) only [mu_s, mu_n]; first | assumption | rfl)) (by rfl) ?_
      refine ev_iconst (v := nI 1) dX8_figure_55 rfl ?_
      refine ev_isubN dX8_figure_56 (by omega) ?_
      refine ev_ialoadN dX8_figure_57 (by first | omega | decide) (by first | assumption | (simp (disch := omega) only [mu_s, mu_n]; first | assumption | rfl)) (by omega) (by decide) ?_
      refine ev_top (i_op ((congrArg f (show pl + 1 - 1 = pl by omega)).trans hfp)) ?_
      refine ev_bipush (v := nI 48) dX8_figure_58 rfl ?_
      refine ev_isubN dX8_figure_60 (by omega) ?_
      refine ev_reti dX8_figure_61 rfl rfl ?_
      exact hy hlt hf _ (ag_mu (ag_rf M _ _) (by omega) (by omega)) (mu_s _ _ _)
theorem c_readOffice {e : Nat → Int32} {t : tx} {l : lt} {p : pg} {a : List pg} {sl : Nat → Option pg} {v : ov} {sd : Int64} (hO : kO M e t.1 l.1 a.length v.1 sd) (hR : kR M (t, l, p, a, sl, v, sd)) (ho : txOk t) (hp : ∀ M1 e1, ag M M1 72 88 → kO M1 e1 t.1 l.1 a.length v.1 sd → kR M1 (t, l, p, a, sl, v, sd) → (fltN t = none → e1 2 = nI ((t.1 - 1) / 5) ∧ ∃ f, M1 78 = .inl (0, 24, .inl f) ∧ ∀ c k, c < (t.1 - 1) / 5 → k < 4 → f (4 * c + k) = nI (t.2 (5 * c + 2 + k) - 48)) → P (some (.int (oI (fltN t)))) M1) : Ev 88 (d + 2) mX8_readOffice none 0 [.ref 72, .null, .null] [] M P := by
  have h40 := ho.1
  obtain ⟨f0, t1, t2⟩ : arr M 73 40 t.1 t.2 := hR.1
  obtain ⟨g0, y0⟩ := hR.2.2.2.2.2.2.2.1
  have wl : ∀ (j c : Nat) (M1 : mM) (e1 f1 : Nat → _) (lx ly : Value), c + j = 7 → c ≤ 6 → 5 * c + 1 ≤ t.1 → ag M M1 72 88 → kO M1 e1 t.1 l.1 a.length v.1 sd → kR M1 (t, l, p, a, sl, v, sd) → M1 78 = .inl (0, 24, .inl f1) → e1 1 = nI (5 * c + 1) → e1 2 = nI c → (∀ i, i < 5 * c + 1 → rtB t i = true) → (∀ c1 k, c1 < c → k < 4 → f1 (4 * c1 + k) = nI (t.2 (5 * c1 + 2 + k) - 48)) → Ev 88 (d + 2) mX8_readOffice none 35 [.ref 72, lx, ly] [] M1 P := by
    intro j
    induction j with
    | zero => intro c M1 e1 f1 lx ly hc h6; omega
    | succ j ih =>
      intro c M1 e1 f1 lx ly hc h6 hct ha yO yR y78 q1 q2 hrt hfa
      have z0 := yO
      unfold kO at z0
      obtain ⟨ft, xt, yt⟩ : arr M1 73 40 t.1 t.2 := id yR.1
      by_cases hend : 5 * c + 1 = t.1
      · have hfl : fltN t = none := by rw [flt_a (fun i hi => hrt i (by omega)), if_pos (by omega)]
        have hc5 : c = (t.1 - 1) / 5 := by omega
        have hpp := hp M1 e1 ha yO yR (fun _ => ⟨by rw [q2, hc5], f1, y78, fun c1 k h1 h2 => hfa c1 k (by omega) h2⟩)
        rw [hfl] at hpp
        refine ev_aload_n (i := 0) dX8_readOffice_35 rfl rfl ?_
        refine ev_getfield dX8_readOffice_36 fX8_78 (by first | omega | decide) (by first | assumption | (simp (disch := omega) only [mu_s, mu_n]; first | assumption | rfl)) (by rfl) ?_
        refine ev_top (i_op q1) ?_
        refine ev_aload_n (i := 0) dX8_readOffice_39 rfl rfl ?_
        refine ev_getfield dX8_readOffice_40 fX8_75 (by first | omega | decide) (by first | assumption | (simp (disch := omega) only [mu_s, mu_n]; first | assumption | rfl)) (by rfl) ?_
        refine ev_icmp_geN 175 dX8_readOffice_43 (by decide) (by omega) (by omega) (fun b43 => ?_) (fun b43 => by exfalso; omega)
        refine ev_bipush (v := (-9)) dX8_readOffice_175 rfl ?_
        refine ev_reti dX8_readOffice_177 rfl rfl ?_
        exact hpp
      · have hlt : 5 * c + 1 < t.1 := by omega
        have hbl := ho.2 (5 * c + 1) hlt
        have hft := yt (5 * c + 1) hlt
        by_cases h76 : t.2 (5 * c + 1) = 76
        · by_cases hc6 : c = 6
          · subst hc6
            have hfl : fltN t = some 31 := flt_i (n := 31) hrt hlt rt_6
            have hpp := hp M1 e1 ha yO yR (fun z => by rw [hfl] at z; cases z)
            rw [hfl] at hpp
            refine ev_aload_n (i := 0) dX8_readOffice_35 rfl rfl ?_
            refine ev_getfield dX8_readOffice_36 fX8_78 (by first | omega | decide) (by first | assumption | (simp (disch := omega) only [mu_s, mu_n]; first | assumption | rfl)) (by rfl) ?_
            refine ev_top (i_op q1) ?_
            refine ev_aload_n (i := 0) dX8_readOffice_39 rfl rfl ?_
            refine ev_getfield dX8_readOffice_40 fX8_75 (by first | omega | decide) (by first | assumption | (simp (disch := omega) only [mu_s, mu_n]; first | assumption | rfl)) (by rfl) ?_
            refine ev_icmp_geN 175 dX8_readOffice_43 (by decide) (by omega) (by omega) (fun b43 => by exfalso; omega) (fun b43 => ?_)
            refine ev_aload_n (i := 0) dX8_readOffice_46 rfl rfl ?_
            refine ev_getfield dX8_readOffice_47 fX8_7 (by first | omega | decide) (by first | assumption | (simp (disch := omega) only [mu_s, mu_n]; first | assumption | rfl)) (by rfl) ?_
            refine ev_aload_n (i := 0) dX8_readOffice_50 rfl rfl ?_
            refine ev_getfield dX8_readOffice_51 fX8_78 (by first | omega | decide) (by first | assumption | (simp (disch := omega) only [mu_s, mu_n]; first | assumption | rfl)) (by rfl) ?_
            refine ev_top (i_op q1) ?_
            refine ev_ialoadN dX8_readOffice_54 (by first | omega | decide) (by first | assumption | (simp (disch := omega) only [mu_s, mu_n]; first | assumption | rfl)) (by omega) (by decide) ?_
            refine ev_top (i_op hft) ?_
            refine ev_bipush (v := nI 76) dX8_readOffice_55 rfl ?_
            refine ev_icmp_neN 69 dX8_readOffice_57 (by decide) (by omega) (by omega) (fun b57 => by exfalso; omega) (fun b57 => ?_)
            refine ev_aload_n (i := 0) dX8_readOffice_60 rfl rfl ?_
            refine ev_getfield dX8_readOffice_61 fX8_81 (by first | omega | decide) (by first | assumption | (simp (disch := omega) only [mu_s, mu_n]; first | assumption | rfl)) (by rfl) ?_
            refine ev_top (i_op q2) ?_
            refine ev_bipush (v := nI 6) dX8_readOffice_64 rfl ?_
            refine ev_icmp_neN 74 dX8_readOffice_66 (by decide) (by omega) (by omega) (fun b66 => by exfalso; omega) (fun b66 => ?_)
            refine ev_aload_n (i := 0) dX8_readOffice_69 rfl rfl ?_
            refine ev_getfield dX8_readOffice_70 fX8_78 (by first | omega | decide) (by first | assumption | (simp (disch := omega) only [mu_s, mu_n]; first | assumption | rfl)) (by rfl) ?_
            refine ev_reti dX8_readOffice_73 rfl rfl ?_
            rw [q1]; exact hpp
          · have hc5 : c < 6 := by omega
            have hr1 : rtB t (5 * c + 1) = true := by rw [rt_0 hc5]; exact decide_eq_true h76
            have il : ∀ (jj k : Nat) (M2 : mM) (e2 f2 : Nat → _) (lx ly : Value), k + jj = 4 → 5 * c + 2 + k ≤ t.1 → ag M M2 72 88 → kO M2 e2 t.1 l.1 a.length v.1 sd → kR M2 (t, l, p, a, sl, v, sd) → M2 78 = .inl (0, 24, .inl f2) → e2 1 = nI (5 * c + 2 + k) → e2 2 = nI c → (∀ i, i < 5 * c + 2 + k → rtB t i = true) → (∀ c1 k1, c1 < c → k1 < 4 → f2 (4 * c1 + k1) = nI (t.2 (5 * c1 + 2 + k1) - 48)) → (∀ k1, k1 < k → f2 (4 * c + k1) = nI (t.2 (5 * c + 2 + k1) - 48)) → Ev 88 (d + 2) mX8_readOffice none 86 [.ref 72, .int (nI k), ly] [] M2 P := by
              intro jj
              induction jj with
              | zero =>
                intro k M2 e2 f2 lx ly hk hkt hb wO wR w78 r1 r2 hrt2 hfa2 hfb2
                obtain rfl : k = 4 := by omega
                have z2 := wO
                unfold kO at z2
                refine ev_iload_n (i := 1) dX8_readOffice_86 rfl rfl ?_
                refine ev_iconst (v := nI 4) dX8_readOffice_87 rfl ?_
                refine ev_icmp_geN 162 dX8_readOffice_88 (by decide) (by omega) (by omega) (fun b88 => ?_) (fun b88 => by exfalso; omega)
                refine ev_aload_n (i := 0) dX8_readOffice_162 rfl rfl ?_
                refine ev_dup dX8_readOffice_163 rfl ?_
                refine ev_getfield dX8_readOffice_164 fX8_81 (by first | omega | decide) (by first | assumption | (simp (disch := omega) only [mu_s, mu_n]; first | assumption | rfl)) (by rfl) ?_
                refine ev_top (i_op r2) ?_
                refine ev_iconst (v := nI 1) dX8_readOffice_167 rfl ?_
                refine ev_iaddN dX8_readOffice_168 ?_
                refine ev_putI dX8_readOffice_169 fwX8_81 (by first | omega | decide) (by first | assumption | (simp (disch := omega) only [mu_s, mu_n]; first | assumption | rfl)) (Nat.le_of_ble_eq_true rfl) ?_
                refine ev_goto 35 dX8_readOffice_172 (by decide) ?_
                refine ih (c + 1) _ (eS e2 2 (nI (c + 1))) f2 _ _ (by omega) (by omega) (by omega) (ag_mu hb (by omega) (by omega)) (mu_s _ _ _) (kR_ob wR (ag_mu (ag_rf M2 _ _) (by omega) (by omega))) ((mu_n (by omega)).trans w78) (r1.trans (congrArg nI (by omega))) rfl (fun i hi => hrt2 i (by omega)) (fun c1 k1 h1 h2 => ?_)
                by_cases z : c1 = c
                · rw [z]; exact hfb2 k1 h2
                · exact hfa2 c1 k1 (by omega) h2
              | succ jj ih2 =>
                intro k M2 e2 f2 lx ly hk hkt hb wO wR w78 r1 r2 hrt2 hfa2 hfb2
                have z2 := wO
                unfold kO at z2
                rcases (show k = 0 ∨ k = 1 ∨ k = 2 ∨ k = 3 by omega) with rfl | rfl | rfl | rfl
                · skip
                  refine ev_iload_n (i := 1) dX8_readOffice_86 rfl rfl ?_
                  refine ev_iconst (v := nI 4) dX8_readOffice_87 rfl ?_
                  refine ev_icmp_geN 162 dX8_readOffice_88 (by decide) (by omega) (by omega) (fun b88 => by exfalso; omega) (fun b88 => ?_)
                  refine ev_aload_n (i := 0) dX8_readOffice_91 rfl rfl ?_
                  refine ev_iload_n (i := 1) dX8_readOffice_92 rfl rfl ?_
                  refine ev_iconst (v := nI 1) dX8_readOffice_93 rfl ?_
                  refine ev_icmp_eqN 102 dX8_readOffice_94 (by decide) (by omega) (by omega) (fun b94 => by exfalso; omega) (fun b94 => ?_)
                  refine ev_iload_n (i := 1) dX8_readOffice_97 rfl rfl ?_
                  refine ev_iconst (v := nI 2) dX8_readOffice_98 rfl ?_
                  refine ev_icmp_neN 106 dX8_readOffice_99 (by decide) (by omega) (by omega) (fun b99 => ?_) (fun b99 => by exfalso; omega)
                  refine ev_iconst (v := nI 0) dX8_readOffice_106 rfl ?_
                  refine ev_iload_n (i := 1) dX8_readOffice_107 rfl rfl ?_
                  refine ev_if_neN 116 dX8_readOffice_108 (by decide) (by omega) (fun b108 => by exfalso; omega) (fun b108 => ?_)
                  refine ev_bipush (v := nI 8) dX8_readOffice_111 rfl ?_
                  refine ev_goto 127 dX8_readOffice_113 (by decide) ?_
                  refine ev_V2 (μ1 := mX8_figure) dX8_readOffice_127 sX8_84 okX8_figure (by first | omega | decide) (by first | assumption | (simp (disch := omega) only [mu_s, mu_n]; first | assumption | rfl)) (Nat.le_of_ble_eq_true rfl) (Nat.le_of_ble_eq_true rfl) ?_
                  refine c_figure (t := t) (lo := 0) (hi := 8) (pl := 5 * c + 2 + 0) wO wR.1 ho r1 hkt (by decide) (by decide) (fun hq => ?_) (fun u1 u2 M3 hb3 wO3 => ?_)
                  -- #stop
                  · have hfl : fltN t = some (5 * c + 2 + 0) := by
                      rcases hq with z | ⟨z1, z2⟩
                      · rw [flt_a (fun i hi => hrt2 i (by omega)), if_neg (by omega), z]
                      · exact flt_i hrt2 z1 ((rt_1 hc5).trans z2)
                    have hpp := hp M2 e2 hb wO wR (fun z => by rw [hfl] at z; cases z)
                    rw [hfl] at hpp
                    refine ev_istore_n (i := 2) dX8_readOffice_130 rfl (by decide) rfl ?_
                    refine ev_iload_n (i := 2) dX8_readOffice_131 rfl rfl ?_
                    refine ev_bipush (v := (-9)) dX8_readOffice_132 rfl ?_
                    refine ev_icmp_ne 142 dX8_readOffice_134 (by decide) (fun b134 => absurd rfl b134) (fun b134 => ?_)
                    refine ev_aload_n (i := 0) dX8_readOffice_137 rfl rfl ?_
                    refine ev_getfield dX8_readOffice_138 fX8_78 (by first | omega | decide) (by first | assumption | (simp (disch := omega) only [mu_s, mu_n]; first | assumption | rfl)) (by rfl) ?_
                    refine ev_reti dX8_readOffice_141 rfl rfl ?_
                    rw [r1]; exact hpp
                  · have h9 : ¬ nI (t.2 (5 * c + 2 + 0) - 48) = (-9) := n_9 (by have := ho.2 _ u1; omega)
                    have z3 := wO3
                    unfold kO at z3
                    have y3 := (hb3 78 (by omega)).trans w78
                    have eA : ag M3 (mu M3 78 (.inl (0, 24, .inl (upd f2 (4 * c + 0) (nI (t.2 (5 * c + 2 + 0) - 48)))))) 78 79 := ag_mu (ag_rf M3 _ _) (by omega) (by omega)
                    refine ev_istore_n (i := 2) dX8_readOffice_130 rfl (by decide) rfl ?_
                    refine ev_iload_n (i := 2) dX8_readOffice_131 rfl rfl ?_
                    refine ev_bipush (v := (-9)) dX8_readOffice_132 rfl ?_
                    refine ev_icmp_ne 142 dX8_readOffice_134 (by decide) (fun b134 => ?_) (fun b134 => absurd b134 h9)
                    refine ev_aload_n (i := 0) dX8_readOffice_142 rfl rfl ?_
                    refine ev_getfield dX8_readOffice_143 fX8_25 (by first | omega | decide) (by first | assumption | (simp (disch := omega) only [mu_s, mu_n]; first | assumption | rfl)) (by rfl) ?_
                    refine ev_iconst (v := nI 4) dX8_readOffice_146 rfl ?_
                    refine ev_aload_n (i := 0) dX8_readOffice_147 rfl rfl ?_
                    refine ev_getfield dX8_readOffice_148 fX8_81 (by first | omega | decide) (by first | assumption | (simp (disch := omega) only [mu_s, mu_n]; first | assumption | rfl)) (by rfl) ?_
                    refine ev_top (i_op (show eS e2 1 (nI (5 * c + 2 + 0 + 1)) 2 = nI c from r2)) ?_
                    refine ev_imulN dX8_readOffice_151 ?_
                    refine ev_iload_n (i := 1) dX8_readOffice_152 rfl rfl ?_
                    refine ev_iaddN dX8_readOffice_153 ?_
                    refine ev_iload_n (i := 2) dX8_readOffice_154 rfl rfl ?_
                    refine ev_iastoreN dX8_readOffice_155 (by first | omega | decide) (by first | assumption | (simp (disch := omega) only [mu_s, mu_n]; first | assumption | rfl)) (by omega) (by decide) ?_
                    refine ev_incN dX8_readOffice_156 (by rfl) (by decide) rfl ?_
                    refine ev_goto 86 dX8_readOffice_159 (by decide) ?_
                    refine ih2 1 _ _ (upd f2 (4 * c + 0) (nI (t.2 (5 * c + 2 + 0) - 48))) lx _ (by omega) (by omega) (ag_tr (ag_tr hb hb3 : ag M M3 72 88) eA) (kO_ag wO3 eA (by omega)) (kR_x (kR_ob wR hb3) eA ⟨_, mu_s _ _ _⟩) (mu_s _ _ _) rfl r2 (fun i hi => ?_) (fun c1 k1 h1 h2 => (upd_b (by omega)).trans (hfa2 c1 k1 h1 h2)) (fun k1 h1 => ?_)
                    · by_cases z : i = 5 * c + 2 + 0
                      · rw [z, rt_1 hc5]; exact u2
                      · exact hrt2 i (by omega)
                    · by_cases z : k1 = 0
                      · rw [z]; exact upd_a rfl
                      · exact (upd_b (by omega)).trans (hfb2 k1 (by omega))
                · skip
                  refine ev_iload_n (i := 1) dX8_readOffice_86 rfl rfl ?_
                  refine ev_iconst (v := nI 4) dX8_readOffice_87 rfl ?_
                  refine ev_icmp_geN 162 dX8_readOffice_88 (by decide) (by omega) (by omega) (fun b88 => by exfalso; omega) (fun b88 => ?_)
                  refine ev_aload_n (i := 0) dX8_readOffice_91 rfl rfl ?_
                  refine ev_iload_n (i := 1) dX8_readOffice_92 rfl rfl ?_
                  refine ev_iconst (v := nI 1) dX8_readOffice_93 rfl ?_
                  refine ev_icmp_eqN 102 dX8_readOffice_94 (by decide) (by omega) (by omega) (fun b94 => ?_) (fun b94 => by exfalso; omega)
                  refine ev_iconst (v := nI 1) dX8_readOffice_102 rfl ?_
                  refine ev_goto 107 dX8_readOffice_103 (by decide) ?_
                  refine ev_iload_n (i := 1) dX8_readOffice_107 rfl rfl ?_
                  refine ev_if_neN 116 dX8_readOffice_108 (by decide) (by omega) (fun b108 => ?_) (fun b108 => by exfalso; omega)
                  refine ev_iload_n (i := 1) dX8_readOffice_116 rfl rfl ?_
                  refine ev_iconst (v := nI 1) dX8_readOffice_117 rfl ?_
                  refine ev_icmp_neN 126 dX8_readOffice_118 (by decide) (by omega) (by omega) (fun b118 => by exfalso; omega) (fun b118 => ?_)
                  refine ev_bipush (v := nI 9) dX8_readOffice_121 rfl ?_
                  refine ev_goto 127 dX8_readOffice_123 (by decide) ?_
                  refine ev_V2 (μ1 := mX8_figure) dX8_readOffice_127 sX8_84 okX8_figure (by first | omega | decide) (by first | assumption | (simp (disch := omega) only [mu_s, mu_n]; first | assumption | rfl)) (Nat.le_of_ble_eq_true rfl) (Nat.le_of_ble_eq_true rfl) ?_
                  refine c_figure (t := t) (lo := 1) (hi := 9) (pl := 5 * c + 2 + 1) wO wR.1 ho r1 hkt (by decide) (by decide) (fun hq => ?_) (fun u1 u2 M3 hb3 wO3 => ?_)
                  -- #stop
                  · have hfl : fltN t = some (5 * c + 2 + 1) := by
                      rcases hq with z | ⟨z1, z2⟩
                      · rw [flt_a (fun i hi => hrt2 i (by omega)), if_neg (by omega), z]
                      · exact flt_i hrt2 z1 ((rt_2 hc5).trans z2)
                    have hpp := hp M2 e2 hb wO wR (fun z => by rw [hfl] at z; cases z)
                    rw [hfl] at hpp
                    refine ev_istore_n (i := 2) dX8_readOffice_130 rfl (by decide) rfl ?_
                    refine ev_iload_n (i := 2) dX8_readOffice_131 rfl rfl ?_
                    refine ev_bipush (v := (-9)) dX8_readOffice_132 rfl ?_
                    refine ev_icmp_ne 142 dX8_readOffice_134 (by decide) (fun b134 => absurd rfl b134) (fun b134 => ?_)
                    refine ev_aload_n (i := 0) dX8_readOffice_137 rfl rfl ?_
                    refine ev_getfield dX8_readOffice_138 fX8_78 (by first | omega | decide) (by first | assumption | (simp (disch := omega) only [mu_s, mu_n]; first | assumption | rfl)) (by rfl) ?_
                    refine ev_reti dX8_readOffice_141 rfl rfl ?_
                    rw [r1]; exact hpp
                  · have h9 : ¬ nI (t.2 (5 * c + 2 + 1) - 48) = (-9) := n_9 (by have := ho.2 _ u1; omega)
                    have z3 := wO3
                    unfold kO at z3
                    have y3 := (hb3 78 (by omega)).trans w78
                    have eA : ag M3 (mu M3 78 (.inl (0, 24, .inl (upd f2 (4 * c + 1) (nI (t.2 (5 * c + 2 + 1) - 48)))))) 78 79 := ag_mu (ag_rf M3 _ _) (by omega) (by omega)
                    refine ev_istore_n (i := 2) dX8_readOffice_130 rfl (by decide) rfl ?_
                    refine ev_iload_n (i := 2) dX8_readOffice_131 rfl rfl ?_
                    refine ev_bipush (v := (-9)) dX8_readOffice_132 rfl ?_
                    refine ev_icmp_ne 142 dX8_readOffice_134 (by decide) (fun b134 => ?_) (fun b134 => absurd b134 h9)
                    refine ev_aload_n (i := 0) dX8_readOffice_142 rfl rfl ?_
                    refine ev_getfield dX8_readOffice_143 fX8_25 (by first | omega | decide) (by first | assumption | (simp (disch := omega) only [mu_s, mu_n]; first | assumption | rfl)) (by rfl) ?_
                    refine ev_iconst (v := nI 4) dX8_readOffice_146 rfl ?_
                    refine ev_aload_n (i := 0) dX8_readOffice_147 rfl rfl ?_
                    refine ev_getfield dX8_readOffice_148 fX8_81 (by first | omega | decide) (by first | assumption | (simp (disch := omega) only [mu_s, mu_n]; first | assumption | rfl)) (by rfl) ?_
                    refine ev_top (i_op (show eS e2 1 (nI (5 * c + 2 + 1 + 1)) 2 = nI c from r2)) ?_
                    refine ev_imulN dX8_readOffice_151 ?_
                    refine ev_iload_n (i := 1) dX8_readOffice_152 rfl rfl ?_
                    refine ev_iaddN dX8_readOffice_153 ?_
                    refine ev_iload_n (i := 2) dX8_readOffice_154 rfl rfl ?_
                    refine ev_iastoreN dX8_readOffice_155 (by first | omega | decide) (by first | assumption | (simp (disch := omega) only [mu_s, mu_n]; first | assumption | rfl)) (by omega) (by decide) ?_
                    refine ev_incN dX8_readOffice_156 (by rfl) (by decide) rfl ?_
                    refine ev_goto 86 dX8_readOffice_159 (by decide) ?_
                    refine ih2 2 _ _ (upd f2 (4 * c + 1) (nI (t.2 (5 * c + 2 + 1) - 48))) lx _ (by omega) (by omega) (ag_tr (ag_tr hb hb3 : ag M M3 72 88) eA) (kO_ag wO3 eA (by omega)) (kR_x (kR_ob wR hb3) eA ⟨_, mu_s _ _ _⟩) (mu_s _ _ _) rfl r2 (fun i hi => ?_) (fun c1 k1 h1 h2 => (upd_b (by omega)).trans (hfa2 c1 k1 h1 h2)) (fun k1 h1 => ?_)
                    · by_cases z : i = 5 * c + 2 + 1
                      · rw [z, rt_2 hc5]; exact u2
                      · exact hrt2 i (by omega)
                    · by_cases z : k1 = 1
                      · rw [z]; exact upd_a rfl
                      · exact (upd_b (by omega)).trans (hfb2 k1 (by omega))
                · skip
                  refine ev_iload_n (i := 1) dX8_readOffice_86 rfl rfl ?_
                  refine ev_iconst (v := nI 4) dX8_readOffice_87 rfl ?_
                  refine ev_icmp_geN 162 dX8_readOffice_88 (by decide) (by omega) (by omega) (fun b88 => by exfalso; omega) (fun b88 => ?_)
                  refine ev_aload_n (i := 0) dX8_readOffice_91 rfl rfl ?_
                  refine ev_iload_n (i := 1) dX8_readOffice_92 rfl rfl ?_
                  refine ev_iconst (v := nI 1) dX8_readOffice_93 rfl ?_
                  refine ev_icmp_eqN 102 dX8_readOffice_94 (by decide) (by omega) (by omega) (fun b94 => by exfalso; omega) (fun b94 => ?_)
                  refine ev_iload_n (i := 1) dX8_readOffice_97 rfl rfl ?_
                  refine ev_iconst (v := nI 2) dX8_readOffice_98 rfl ?_
                  refine ev_icmp_neN 106 dX8_readOffice_99 (by decide) (by omega) (by omega) (fun b99 => by exfalso; omega) (fun b99 => ?_)
                  refine ev_iconst (v := nI 1) dX8_readOffice_102 rfl ?_
                  refine ev_goto 107 dX8_readOffice_103 (by decide) ?_
                  refine ev_iload_n (i := 1) dX8_readOffice_107 rfl rfl ?_
                  refine ev_if_neN 116 dX8_readOffice_108 (by decide) (by omega) (fun b108 => ?_) (fun b108 => by exfalso; omega)
                  refine ev_iload_n (i := 1) dX8_readOffice_116 rfl rfl ?_
                  refine ev_iconst (v := nI 1) dX8_readOffice_117 rfl ?_
                  refine ev_icmp_neN 126 dX8_readOffice_118 (by decide) (by omega) (by omega) (fun b118 => ?_) (fun b118 => by exfalso; omega)
                  refine ev_iconst (v := nI 3) dX8_readOffice_126 rfl ?_
                  refine ev_V2 (μ1 := mX8_figure) dX8_readOffice_127 sX8_84 okX8_figure (by first | omega | decide) (by first | assumption | (simp (disch := omega) only [mu_s, mu_n]; first | assumption | rfl)) (Nat.le_of_ble_eq_true rfl) (Nat.le_of_ble_eq_true rfl) ?_
                  refine c_figure (t := t) (lo := 1) (hi := 3) (pl := 5 * c + 2 + 2) wO wR.1 ho r1 hkt (by decide) (by decide) (fun hq => ?_) (fun u1 u2 M3 hb3 wO3 => ?_)
                  -- #stop
                  · have hfl : fltN t = some (5 * c + 2 + 2) := by
                      rcases hq with z | ⟨z1, z2⟩
                      · rw [flt_a (fun i hi => hrt2 i (by omega)), if_neg (by omega), z]
                      · exact flt_i hrt2 z1 ((rt_3 hc5).trans z2)
                    have hpp := hp M2 e2 hb wO wR (fun z => by rw [hfl] at z; cases z)
                    rw [hfl] at hpp
                    refine ev_istore_n (i := 2) dX8_readOffice_130 rfl (by decide) rfl ?_
                    refine ev_iload_n (i := 2) dX8_readOffice_131 rfl rfl ?_
                    refine ev_bipush (v := (-9)) dX8_readOffice_132 rfl ?_
                    refine ev_icmp_ne 142 dX8_readOffice_134 (by decide) (fun b134 => absurd rfl b134) (fun b134 => ?_)
                    refine ev_aload_n (i := 0) dX8_readOffice_137 rfl rfl ?_
                    refine ev_getfield dX8_readOffice_138 fX8_78 (by first | omega | decide) (by first | assumption | (simp (disch := omega) only [mu_s, mu_n]; first | assumption | rfl)) (by rfl) ?_
                    refine ev_reti dX8_readOffice_141 rfl rfl ?_
                    rw [r1]; exact hpp
                  · have h9 : ¬ nI (t.2 (5 * c + 2 + 2) - 48) = (-9) := n_9 (by have := ho.2 _ u1; omega)
                    have z3 := wO3
                    unfold kO at z3
                    have y3 := (hb3 78 (by omega)).trans w78
                    have eA : ag M3 (mu M3 78 (.inl (0, 24, .inl (upd f2 (4 * c + 2) (nI (t.2 (5 * c + 2 + 2) - 48)))))) 78 79 := ag_mu (ag_rf M3 _ _) (by omega) (by omega)
                    refine ev_istore_n (i := 2) dX8_readOffice_130 rfl (by decide) rfl ?_
                    refine ev_iload_n (i := 2) dX8_readOffice_131 rfl rfl ?_
                    refine ev_bipush (v := (-9)) dX8_readOffice_132 rfl ?_
                    refine ev_icmp_ne 142 dX8_readOffice_134 (by decide) (fun b134 => ?_) (fun b134 => absurd b134 h9)
                    refine ev_aload_n (i := 0) dX8_readOffice_142 rfl rfl ?_
                    refine ev_getfield dX8_readOffice_143 fX8_25 (by first | omega | decide) (by first | assumption | (simp (disch := omega) only [mu_s, mu_n]; first | assumption | rfl)) (by rfl) ?_
                    refine ev_iconst (v := nI 4) dX8_readOffice_146 rfl ?_
                    refine ev_aload_n (i := 0) dX8_readOffice_147 rfl rfl ?_
                    refine ev_getfield dX8_readOffice_148 fX8_81 (by first | omega | decide) (by first | assumption | (simp (disch := omega) only [mu_s, mu_n]; first | assumption | rfl)) (by rfl) ?_
                    refine ev_top (i_op (show eS e2 1 (nI (5 * c + 2 + 2 + 1)) 2 = nI c from r2)) ?_
                    refine ev_imulN dX8_readOffice_151 ?_
                    refine ev_iload_n (i := 1) dX8_readOffice_152 rfl rfl ?_
                    refine ev_iaddN dX8_readOffice_153 ?_
                    refine ev_iload_n (i := 2) dX8_readOffice_154 rfl rfl ?_
                    refine ev_iastoreN dX8_readOffice_155 (by first | omega | decide) (by first | assumption | (simp (disch := omega) only [mu_s, mu_n]; first | assumption | rfl)) (by omega) (by decide) ?_
                    refine ev_incN dX8_readOffice_156 (by rfl) (by decide) rfl ?_
                    refine ev_goto 86 dX8_readOffice_159 (by decide) ?_
                    refine ih2 3 _ _ (upd f2 (4 * c + 2) (nI (t.2 (5 * c + 2 + 2) - 48))) lx _ (by omega) (by omega) (ag_tr (ag_tr hb hb3 : ag M M3 72 88) eA) (kO_ag wO3 eA (by omega)) (kR_x (kR_ob wR hb3) eA ⟨_, mu_s _ _ _⟩) (mu_s _ _ _) rfl r2 (fun i hi => ?_) (fun c1 k1 h1 h2 => (upd_b (by omega)).trans (hfa2 c1 k1 h1 h2)) (fun k1 h1 => ?_)
                    · by_cases z : i = 5 * c + 2 + 2
                      · rw [z, rt_3 hc5]; exact u2
                      · exact hrt2 i (by omega)
                    · by_cases z : k1 = 2
                      · rw [z]; exact upd_a rfl
                      · exact (upd_b (by omega)).trans (hfb2 k1 (by omega))
                · skip
                  refine ev_iload_n (i := 1) dX8_readOffice_86 rfl rfl ?_
                  refine ev_iconst (v := nI 4) dX8_readOffice_87 rfl ?_
                  refine ev_icmp_geN 162 dX8_readOffice_88 (by decide) (by omega) (by omega) (fun b88 => by exfalso; omega) (fun b88 => ?_)
                  refine ev_aload_n (i := 0) dX8_readOffice_91 rfl rfl ?_
                  refine ev_iload_n (i := 1) dX8_readOffice_92 rfl rfl ?_
                  refine ev_iconst (v := nI 1) dX8_readOffice_93 rfl ?_
                  refine ev_icmp_eqN 102 dX8_readOffice_94 (by decide) (by omega) (by omega) (fun b94 => by exfalso; omega) (fun b94 => ?_)
                  refine ev_iload_n (i := 1) dX8_readOffice_97 rfl rfl ?_
                  refine ev_iconst (v := nI 2) dX8_readOffice_98 rfl ?_
                  refine ev_icmp_neN 106 dX8_readOffice_99 (by decide) (by omega) (by omega) (fun b99 => ?_) (fun b99 => by exfalso; omega)
                  refine ev_iconst (v := nI 0) dX8_readOffice_106 rfl ?_
                  refine ev_iload_n (i := 1) dX8_readOffice_107 rfl rfl ?_
                  refine ev_if_neN 116 dX8_readOffice_108 (by decide) (by omega) (fun b108 => ?_) (fun b108 => by exfalso; omega)
                  refine ev_iload_n (i := 1) dX8_readOffice_116 rfl rfl ?_
                  refine ev_iconst (v := nI 1) dX8_readOffice_117 rfl ?_
                  refine ev_icmp_neN 126 dX8_readOffice_118 (by decide) (by omega) (by omega) (fun b118 => ?_) (fun b118 => by exfalso; omega)
                  refine ev_iconst (v := nI 3) dX8_readOffice_126 rfl ?_
                  refine ev_V2 (μ1 := mX8_figure) dX8_readOffice_127 sX8_84 okX8_figure (by first | omega | decide) (by first | assumption | (simp (disch := omega) only [mu_s, mu_n]; first | assumption | rfl)) (Nat.le_of_ble_eq_true rfl) (Nat.le_of_ble_eq_true rfl) ?_
                  refine c_figure (t := t) (lo := 0) (hi := 3) (pl := 5 * c + 2 + 3) wO wR.1 ho r1 hkt (by decide) (by decide) (fun hq => ?_) (fun u1 u2 M3 hb3 wO3 => ?_)
                  -- #stop
                  · have hfl : fltN t = some (5 * c + 2 + 3) := by
                      rcases hq with z | ⟨z1, z2⟩
                      · rw [flt_a (fun i hi => hrt2 i (by omega)), if_neg (by omega), z]
                      · exact flt_i hrt2 z1 ((rt_4 hc5).trans z2)
                    have hpp := hp M2 e2 hb wO wR (fun z => by rw [hfl] at z; cases z)
                    rw [hfl] at hpp
                    refine ev_istore_n (i := 2) dX8_readOffice_130 rfl (by decide) rfl ?_
                    refine ev_iload_n (i := 2) dX8_readOffice_131 rfl rfl ?_
                    refine ev_bipush (v := (-9)) dX8_readOffice_132 rfl ?_
                    refine ev_icmp_ne 142 dX8_readOffice_134 (by decide) (fun b134 => absurd rfl b134) (fun b134 => ?_)
                    refine ev_aload_n (i := 0) dX8_readOffice_137 rfl rfl ?_
                    refine ev_getfield dX8_readOffice_138 fX8_78 (by first | omega | decide) (by first | assumption | (simp (disch := omega) only [mu_s, mu_n]; first | assumption | rfl)) (by rfl) ?_
                    refine ev_reti dX8_readOffice_141 rfl rfl ?_
                    rw [r1]; exact hpp
                  · have h9 : ¬ nI (t.2 (5 * c + 2 + 3) - 48) = (-9) := n_9 (by have := ho.2 _ u1; omega)
                    have z3 := wO3
                    unfold kO at z3
                    have y3 := (hb3 78 (by omega)).trans w78
                    have eA : ag M3 (mu M3 78 (.inl (0, 24, .inl (upd f2 (4 * c + 3) (nI (t.2 (5 * c + 2 + 3) - 48)))))) 78 79 := ag_mu (ag_rf M3 _ _) (by omega) (by omega)
                    refine ev_istore_n (i := 2) dX8_readOffice_130 rfl (by decide) rfl ?_
                    refine ev_iload_n (i := 2) dX8_readOffice_131 rfl rfl ?_
                    refine ev_bipush (v := (-9)) dX8_readOffice_132 rfl ?_
                    refine ev_icmp_ne 142 dX8_readOffice_134 (by decide) (fun b134 => ?_) (fun b134 => absurd b134 h9)
                    refine ev_aload_n (i := 0) dX8_readOffice_142 rfl rfl ?_
                    refine ev_getfield dX8_readOffice_143 fX8_25 (by first | omega | decide) (by first | assumption | (simp (disch := omega) only [mu_s, mu_n]; first | assumption | rfl)) (by rfl) ?_
                    refine ev_iconst (v := nI 4) dX8_readOffice_146 rfl ?_
                    refine ev_aload_n (i := 0) dX8_readOffice_147 rfl rfl ?_
                    refine ev_getfield dX8_readOffice_148 fX8_81 (by first | omega | decide) (by first | assumption | (simp (disch := omega) only [mu_s, mu_n]; first | assumption | rfl)) (by rfl) ?_
                    refine ev_top (i_op (show eS e2 1 (nI (5 * c + 2 + 3 + 1)) 2 = nI c from r2)) ?_
                    refine ev_imulN dX8_readOffice_151 ?_
                    refine ev_iload_n (i := 1) dX8_readOffice_152 rfl rfl ?_
                    refine ev_iaddN dX8_readOffice_153 ?_
                    refine ev_iload_n (i := 2) dX8_readOffice_154 rfl rfl ?_
                    refine ev_iastoreN dX8_readOffice_155 (by first | omega | decide) (by first | assumption | (simp (disch := omega) only [mu_s, mu_n]; first | assumption | rfl)) (by omega) (by decide) ?_
                    refine ev_incN dX8_readOffice_156 (by rfl) (by decide) rfl ?_
                    refine ev_goto 86 dX8_readOffice_159 (by decide) ?_
                    refine ih2 4 _ _ (upd f2 (4 * c + 3) (nI (t.2 (5 * c + 2 + 3) - 48))) lx _ (by omega) (by omega) (ag_tr (ag_tr hb hb3 : ag M M3 72 88) eA) (kO_ag wO3 eA (by omega)) (kR_x (kR_ob wR hb3) eA ⟨_, mu_s _ _ _⟩) (mu_s _ _ _) rfl r2 (fun i hi => ?_) (fun c1 k1 h1 h2 => (upd_b (by omega)).trans (hfa2 c1 k1 h1 h2)) (fun k1 h1 => ?_)
                    · by_cases z : i = 5 * c + 2 + 3
                      · rw [z, rt_4 hc5]; exact u2
                      · exact hrt2 i (by omega)
                    · by_cases z : k1 = 3
                      · rw [z]; exact upd_a rfl
                      · exact (upd_b (by omega)).trans (hfb2 k1 (by omega))
            refine ev_aload_n (i := 0) dX8_readOffice_35 rfl rfl ?_
            refine ev_getfield dX8_readOffice_36 fX8_78 (by first | omega | decide) (by first | assumption | (simp (disch := omega) only [mu_s, mu_n]; first | assumption | rfl)) (by rfl) ?_
            refine ev_top (i_op q1) ?_
            refine ev_aload_n (i := 0) dX8_readOffice_39 rfl rfl ?_
            refine ev_getfield dX8_readOffice_40 fX8_75 (by first | omega | decide) (by first | assumption | (simp (disch := omega) only [mu_s, mu_n]; first | assumption | rfl)) (by rfl) ?_
            refine ev_icmp_geN 175 dX8_readOffice_43 (by decide) (by omega) (by omega) (fun b43 => by exfalso; omega) (fun b43 => ?_)
            refine ev_aload_n (i := 0) dX8_readOffice_46 rfl rfl ?_
            refine ev_getfield dX8_readOffice_47 fX8_7 (by first | omega | decide) (by first | assumption | (simp (disch := omega) only [mu_s, mu_n]; first | assumption | rfl)) (by rfl) ?_
            refine ev_aload_n (i := 0) dX8_readOffice_50 rfl rfl ?_
            refine ev_getfield dX8_readOffice_51 fX8_78 (by first | omega | decide) (by first | assumption | (simp (disch := omega) only [mu_s, mu_n]; first | assumption | rfl)) (by rfl) ?_
            refine ev_top (i_op q1) ?_
            refine ev_ialoadN dX8_readOffice_54 (by first | omega | decide) (by first | assumption | (simp (disch := omega) only [mu_s, mu_n]; first | assumption | rfl)) (by omega) (by decide) ?_
            refine ev_top (i_op hft) ?_
            refine ev_bipush (v := nI 76) dX8_readOffice_55 rfl ?_
            refine ev_icmp_neN 69 dX8_readOffice_57 (by decide) (by omega) (by omega) (fun b57 => by exfalso; omega) (fun b57 => ?_)
            refine ev_aload_n (i := 0) dX8_readOffice_60 rfl rfl ?_
            refine ev_getfield dX8_readOffice_61 fX8_81 (by first | omega | decide) (by first | assumption | (simp (disch := omega) only [mu_s, mu_n]; first | assumption | rfl)) (by rfl) ?_
            refine ev_top (i_op q2) ?_
            refine ev_bipush (v := nI 6) dX8_readOffice_64 rfl ?_
            refine ev_icmp_neN 74 dX8_readOffice_66 (by decide) (by omega) (by omega) (fun b66 => ?_) (fun b66 => by exfalso; omega)
            refine ev_aload_n (i := 0) dX8_readOffice_74 rfl rfl ?_
            refine ev_dup dX8_readOffice_75 rfl ?_
            refine ev_getfield dX8_readOffice_76 fX8_78 (by first | omega | decide) (by first | assumption | (simp (disch := omega) only [mu_s, mu_n]; first | assumption | rfl)) (by rfl) ?_
            refine ev_top (i_op q1) ?_
            refine ev_iconst (v := nI 1) dX8_readOffice_79 rfl ?_
            refine ev_iaddN dX8_readOffice_80 ?_
            refine ev_putI dX8_readOffice_81 fwX8_78 (by first | omega | decide) (by first | assumption | (simp (disch := omega) only [mu_s, mu_n]; first | assumption | rfl)) (Nat.le_of_ble_eq_true rfl) ?_
            refine ev_iconst (v := nI 0) dX8_readOffice_84 rfl ?_
            refine ev_istore_n (i := 1) dX8_readOffice_85 rfl (by decide) rfl ?_
            refine il 4 0 _ (eS e1 1 (nI (5 * c + 1 + 1))) f1 .null _ rfl (by omega) (ag_mu ha (by omega) (by omega)) (mu_s _ _ _) (kR_ob yR (ag_mu (ag_rf M1 _ _) (by omega) (by omega))) ((mu_n (by omega)).trans y78) rfl q2 (fun i hi => ?_) hfa (fun k1 h1 => absurd h1 (Nat.not_lt_zero k1))
            by_cases z : i = 5 * c + 1
            · rw [z]; exact hr1
            · exact hrt i (by omega)
        · have hrf : rtB t (5 * c + 1) = false := by
            by_cases hc6 : c = 6
            · rw [hc6]; exact rt_6
            · rw [rt_0 (by omega)]; exact decide_eq_false h76
          have hfl : fltN t = some (5 * c + 1) := flt_i hrt hlt hrf
          have hpp := hp M1 e1 ha yO yR (fun z => by rw [hfl] at z; cases z)
          rw [hfl] at hpp
          refine ev_aload_n (i := 0) dX8_readOffice_35 rfl rfl ?_
          refine ev_getfield dX8_readOffice_36 fX8_78 (by first | omega | decide) (by first | assumption | (simp (disch := omega) only [mu_s, mu_n]; first | assumption | rfl)) (by rfl) ?_
          refine ev_top (i_op q1) ?_
          refine ev_aload_n (i := 0) dX8_readOffice_39 rfl rfl ?_
          refine ev_getfield dX8_readOffice_40 fX8_75 (by first | omega | decide) (by first | assumption | (simp (disch := omega) only [mu_s, mu_n]; first | assumption | rfl)) (by rfl) ?_
          refine ev_icmp_geN 175 dX8_readOffice_43 (by decide) (by omega) (by omega) (fun b43 => by exfalso; omega) (fun b43 => ?_)
          refine ev_aload_n (i := 0) dX8_readOffice_46 rfl rfl ?_
          refine ev_getfield dX8_readOffice_47 fX8_7 (by first | omega | decide) (by first | assumption | (simp (disch := omega) only [mu_s, mu_n]; first | assumption | rfl)) (by rfl) ?_
          refine ev_aload_n (i := 0) dX8_readOffice_50 rfl rfl ?_
          refine ev_getfield dX8_readOffice_51 fX8_78 (by first | omega | decide) (by first | assumption | (simp (disch := omega) only [mu_s, mu_n]; first | assumption | rfl)) (by rfl) ?_
          refine ev_top (i_op q1) ?_
          refine ev_ialoadN dX8_readOffice_54 (by first | omega | decide) (by first | assumption | (simp (disch := omega) only [mu_s, mu_n]; first | assumption | rfl)) (by omega) (by decide) ?_
          refine ev_top (i_op hft) ?_
          refine ev_bipush (v := nI 76) dX8_readOffice_55 rfl ?_
          refine ev_icmp_neN 69 dX8_readOffice_57 (by decide) (by omega) (by omega) (fun b57 => ?_) (fun b57 => by exfalso; omega)
          refine ev_aload_n (i := 0) dX8_readOffice_69 rfl rfl ?_
          refine ev_getfield dX8_readOffice_70 fX8_78 (by first | omega | decide) (by first | assumption | (simp (disch := omega) only [mu_s, mu_n]; first | assumption | rfl)) (by rfl) ?_
          refine ev_reti dX8_readOffice_73 rfl rfl ?_
          rw [q1]; exact hpp
  have x0 := hO
  unfold kO at x0
  by_cases h0 : t.1 = 0
  · have hfl : fltN t = some 0 := by rw [flt_a (fun i hi => by omega), if_neg (by omega), h0]
    refine ev_aload_n (i := 0) dX8_readOffice_0 rfl rfl ?_
    refine ev_iconst (v := nI 0) dX8_readOffice_1 rfl ?_
    refine ev_putI dX8_readOffice_2 fwX8_78 (by first | omega | decide) (by first | assumption | (simp (disch := omega) only [mu_s, mu_n]; first | assumption | rfl)) (Nat.le_of_ble_eq_true rfl) ?_
    refine ev_aload_n (i := 0) dX8_readOffice_5 rfl rfl ?_
    refine ev_iconst (v := nI 0) dX8_readOffice_6 rfl ?_
    refine ev_putI dX8_readOffice_7 fwX8_81 (by first | omega | decide) (by first | assumption | (simp (disch := omega) only [mu_s, mu_n]; first | assumption | rfl)) (Nat.le_of_ble_eq_true rfl) ?_
    refine ev_aload_n (i := 0) dX8_readOffice_10 rfl rfl ?_
    refine ev_getfield dX8_readOffice_11 fX8_75 (by first | omega | decide) (by first | assumption | (simp (disch := omega) only [mu_s, mu_n]; first | assumption | rfl)) (by rfl) ?_
    refine ev_if_eqN 28 dX8_readOffice_14 (by decide) (by omega) (fun b14 => ?_) (fun b14 => by exfalso; omega)
    refine ev_iconst (v := nI 0) dX8_readOffice_28 rfl ?_
    refine ev_reti dX8_readOffice_29 rfl rfl ?_
    exact e_retv (show nI 0 = oI (fltN t) by rw [hfl]; rfl) (hp _ (eS (eS e 1 (nI 0)) 2 (nI 0)) (ag_mu (ag_mu (ag_rf M _ _) (by omega) (by omega)) (by omega) (by omega)) (mu_s _ _ _) (kR_ob hR (ag_mu (ag_mu (ag_rf M _ _) (by omega) (by omega)) (by omega) (by omega))) (fun z => by rw [hfl] at z; cases z))
  · have hb0 := ho.2 0 (by omega)
    have hf0 := t2 0 (by omega)
    have hr0 : rtB t 0 = decide (t.2 0 = 66) := rfl
    by_cases h66 : t.2 0 = 66
    · skip
      refine ev_aload_n (i := 0) dX8_readOffice_0 rfl rfl ?_
      refine ev_iconst (v := nI 0) dX8_readOffice_1 rfl ?_
      refine ev_putI dX8_readOffice_2 fwX8_78 (by first | omega | decide) (by first | assumption | (simp (disch := omega) only [mu_s, mu_n]; first | assumption | rfl)) (Nat.le_of_ble_eq_true rfl) ?_
      refine ev_aload_n (i := 0) dX8_readOffice_5 rfl rfl ?_
      refine ev_iconst (v := nI 0) dX8_readOffice_6 rfl ?_
      refine ev_putI dX8_readOffice_7 fwX8_81 (by first | omega | decide) (by first | assumption | (simp (disch := omega) only [mu_s, mu_n]; first | assumption | rfl)) (Nat.le_of_ble_eq_true rfl) ?_
      refine ev_aload_n (i := 0) dX8_readOffice_10 rfl rfl ?_
      refine ev_getfield dX8_readOffice_11 fX8_75 (by first | omega | decide) (by first | assumption | (simp (disch := omega) only [mu_s, mu_n]; first | assumption | rfl)) (by rfl) ?_
      refine ev_if_eqN 28 dX8_readOffice_14 (by decide) (by omega) (fun b14 => by exfalso; omega) (fun b14 => ?_)
      refine ev_aload_n (i := 0) dX8_readOffice_17 rfl rfl ?_
      refine ev_getfield dX8_readOffice_18 fX8_7 (by first | omega | decide) (by first | assumption | (simp (disch := omega) only [mu_s, mu_n]; first | assumption | rfl)) (by rfl) ?_
      refine ev_iconst (v := nI 0) dX8_readOffice_21 rfl ?_
      refine ev_ialoadN dX8_readOffice_22 (by first | omega | decide) (by first | assumption | (simp (disch := omega) only [mu_s, mu_n]; first | assumption | rfl)) (by omega) (by decide) ?_
      refine ev_top (i_op hf0) ?_
      refine ev_bipush (v := nI 66) dX8_readOffice_23 rfl ?_
      refine ev_icmp_eqN 30 dX8_readOffice_25 (by decide) (by omega) (by omega) (fun b25 => ?_) (fun b25 => by exfalso; omega)
      refine ev_aload_n (i := 0) dX8_readOffice_30 rfl rfl ?_
      refine ev_iconst (v := nI 1) dX8_readOffice_31 rfl ?_
      refine ev_putI dX8_readOffice_32 fwX8_78 (by first | omega | decide) (by first | assumption | (simp (disch := omega) only [mu_s, mu_n]; first | assumption | rfl)) (Nat.le_of_ble_eq_true rfl) ?_
      refine wl 7 0 _ (eS (eS (eS e 1 (nI 0)) 2 (nI 0)) 1 (nI 1)) g0 _ _ rfl (by omega) (by omega) (ag_mu (ag_mu (ag_mu (ag_rf M _ _) (by omega) (by omega)) (by omega) (by omega)) (by omega) (by omega)) (mu_s _ _ _) (kR_ob hR (ag_mu (ag_mu (ag_mu (ag_rf M _ _) (by omega) (by omega)) (by omega) (by omega)) (by omega) (by omega))) ((mu_n (by omega)).trans ((mu_n (by omega)).trans ((mu_n (by omega)).trans y0))) rfl rfl (fun i hi => ?_) (fun c1 k h1 h2 => absurd h1 (Nat.not_lt_zero c1))
      obtain rfl : i = 0 := by omega
      rw [hr0]; exact decide_eq_true h66
    · have hfl : fltN t = some 0 := flt_i (fun i hi => absurd hi (Nat.not_lt_zero i)) (by omega) (by rw [hr0]; exact decide_eq_false h66)
      refine ev_aload_n (i := 0) dX8_readOffice_0 rfl rfl ?_
      refine ev_iconst (v := nI 0) dX8_readOffice_1 rfl ?_
      refine ev_putI dX8_readOffice_2 fwX8_78 (by first | omega | decide) (by first | assumption | (simp (disch := omega) only [mu_s, mu_n]; first | assumption | rfl)) (Nat.le_of_ble_eq_true rfl) ?_
      refine ev_aload_n (i := 0) dX8_readOffice_5 rfl rfl ?_
      refine ev_iconst (v := nI 0) dX8_readOffice_6 rfl ?_
      refine ev_putI dX8_readOffice_7 fwX8_81 (by first | omega | decide) (by first | assumption | (simp (disch := omega) only [mu_s, mu_n]; first | assumption | rfl)) (Nat.le_of_ble_eq_true rfl) ?_
      refine ev_aload_n (i := 0) dX8_readOffice_10 rfl rfl ?_
      refine ev_getfield dX8_readOffice_11 fX8_75 (by first | omega | decide) (by first | assumption | (simp (disch := omega) only [mu_s, mu_n]; first | assumption | rfl)) (by rfl) ?_
      refine ev_if_eqN 28 dX8_readOffice_14 (by decide) (by omega) (fun b14 => by exfalso; omega) (fun b14 => ?_)
      refine ev_aload_n (i := 0) dX8_readOffice_17 rfl rfl ?_
      refine ev_getfield dX8_readOffice_18 fX8_7 (by first | omega | decide) (by first | assumption | (simp (disch := omega) only [mu_s, mu_n]; first | assumption | rfl)) (by rfl) ?_
      refine ev_iconst (v := nI 0) dX8_readOffice_21 rfl ?_
      refine ev_ialoadN dX8_readOffice_22 (by first | omega | decide) (by first | assumption | (simp (disch := omega) only [mu_s, mu_n]; first | assumption | rfl)) (by omega) (by decide) ?_
      refine ev_top (i_op hf0) ?_
      refine ev_bipush (v := nI 66) dX8_readOffice_23 rfl ?_
      refine ev_icmp_eqN 30 dX8_readOffice_25 (by decide) (by omega) (by omega) (fun b25 => by exfalso; omega) (fun b25 => ?_)
      refine ev_iconst (v := nI 0) dX8_readOffice_28 rfl ?_
      refine ev_reti dX8_readOffice_29 rfl rfl ?_
      exact e_retv (show nI 0 = oI (fltN t) by rw [hfl]; rfl) (hp _ (eS (eS e 1 (nI 0)) 2 (nI 0)) (ag_mu (ag_mu (ag_rf M _ _) (by omega) (by omega)) (by omega) (by omega)) (mu_s _ _ _) (kR_ob hR (ag_mu (ag_mu (ag_rf M _ _) (by omega) (by omega)) (by omega) (by omega))) (fun z => by rw [hfl] at z; cases z))
variable {s : cs}

theorem R_fault (h : kM M s) (ho : cOk s) (hp : ∀ M1, ag M M1 72 88 → kM M1 (s) → P (some (.int (oI (fltN s.1)))) M1) : Ev 88 7 mX8_fault none 0 [.ref 72] [] M P := by
  refine m_thr dX8_fault_0 dX8_fault_1 dX8_fault_2 fwX8_60 h (fun M0 a0 h => ?_)
  replace hp : ∀ M1, ag M0 M1 72 88 → kM M1 (s) → P (some (.int (oI (fltN s.1)))) M1 := fun M1 ha hk => hp M1 (ag_tr (ag_wd a0 : ag M M0 72 88) ha) hk
  clear a0
  obtain ⟨t, l, p, a, sl, v, sd⟩ := s
  obtain ⟨⟨e, x0⟩, hR⟩ := id h
  obtain ⟨h1, h2, h3, h11, h4, h5, h6, h7⟩ : arr M0 73 40 t.1 t.2 ∧ kML M0 l ∧ kG M0 79 p ∧ (∃ q, kG M0 80 q) ∧ kBk M0 a ∧ kKp M0 sl ∧ kMV M0 v ∧ kX M0 := id hR
  obtain ⟨o1, o2, o3, o4, o5, o6, o7⟩ : txOk t ∧ ltOk l ∧ pgOk p ∧ (∀ q ∈ a, pgOk q) ∧ a.length ≤ 14 ∧ (∀ i q, sl i = some q → pgOk q) ∧ ovOk v := ho
  have hO : kO M0 e t.1 l.1 a.length v.1 sd := x0
  have hl6 := o2.1
  have hv6 := o7.1
  unfold kO at x0
  refine ev_aload_n (i := 0) dX8_fault_5 rfl rfl ?_
  refine ev_V0 (μ1 := mX8_readOffice) dX8_fault_6 sX8_88 okX8_readOffice (by first | omega | decide) (by first | assumption | (simp (disch := omega) only [mu_s, mu_n]; first | assumption | rfl)) (Nat.le_of_ble_eq_true rfl) (Nat.le_of_ble_eq_true rfl) ?_
  refine c_readOffice hO hR o1 (fun M1 e1 ha hO1 hR1 _ => ?_)
  refine ev_reti dX8_fault_9 rfl rfl ?_
  exact hp M1 ha ⟨⟨e1, hO1⟩, hR1⟩
end MEA
