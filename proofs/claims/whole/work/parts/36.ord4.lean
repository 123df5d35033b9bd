section MEF
variable {d : Nat} {M : mM} {P : Option Value → mM → Prop} {e : Nat → Int32} {ts n ac vc : Nat} {sd : Int64}
theorem c_goOrder {f : Nat → Int32} {g : Nat → Nat} (hO : kO M e ts n ac vc sd) (h6 : n ≤ 6) (y : M 87 = .inl (0, 6, .inl f)) (hf : ∀ i, i < n → f i = nI (g i)) (hg : ∀ i, i < n → g i < n) (hn : goF n g = none → P (some (.int (bI false))) M) (hs : ∀ g1, goF n g = some g1 → ∀ (M1 : mM) (f1 : Nat → Int32), ag M M1 87 88 → M1 87 = .inl (0, 6, .inl f1) → (∀ i, i < n → f1 i = nI (g1 i)) → P (some (.int (bI true))) M1) : Ev 88 d mX8_goOrder none 0 [.ref 72, .null, .null, .null, .null, .null] [] M P := by
  have x0 := hO
  unfold kO at x0
  have rv : ∀ (m a b : Nat) (g2 : Nat → Nat) (f2 : Nat → Int32) (M2 : mM) (K J : Nat) (l3 : Value), a ≤ 7 → b ≤ a + m → b < n → (∀ i, i < n → f2 i = nI (g2 i)) → (∀ i, i < n → g2 i < n) → ag M M2 87 88 → M2 87 = .inl (0, 6, .inl f2) → goF n g = some (rvN m a b g2) → Ev 88 d mX8_goOrder none 107 [.ref 72, .int (nI K), .int (nI J), l3, .int (nI a), .int (nI b)] [] M2 P := by
    intro m
    induction m with
    | zero =>
      intro a b g2 f2 M2 K J l3 ha7 hm hb hf2 hg2 ha y2 hgo
      have z0 := kO_ag hO ha (by omega)
      unfold kO at z0
      refine ev_iload (i := 4) dX8_goOrder_107 rfl ?_
      refine ev_iload (i := 5) dX8_goOrder_109 rfl ?_
      refine ev_icmp_geN 153 dX8_goOrder_111 (by decide) (by omega) (by omega) (fun b111 => ?_) (fun b111 => by exfalso; omega)
      refine ev_iconst (v := nI 1) dX8_goOrder_153 rfl ?_
      refine ev_reti dX8_goOrder_154 rfl (rfl) ?_
      exact hs _ hgo M2 f2 ha y2 hf2
    | succ m ih =>
      intro a b g2 f2 M2 K J l3 ha7 hm hb hf2 hg2 ha y2 hgo
      have z0 := kO_ag hO ha (by omega)
      unfold kO at z0
      by_cases hab : a < b
      · have e1 : rvN (m + 1) a b g2 = rvN m (a + 1) (b - 1) (swN g2 a b) := if_pos hab
        rw [e1] at hgo
        obtain ⟨b1, rfl⟩ : ∃ b1, b = b1 + 1 := ⟨b - 1, by omega⟩
        refine ev_iload (i := 4) dX8_goOrder_107 rfl ?_
        refine ev_iload (i := 5) dX8_goOrder_109 rfl ?_
        refine ev_icmp_geN 153 dX8_goOrder_111 (by decide) (by omega) (by omega) (fun b111 => by exfalso; omega) (fun b111 => ?_)
        refine ev_aload_n (i := 0) dX8_goOrder_114 rfl rfl ?_
        refine ev_getfield dX8_goOrder_115 fX8_53 (by first | omega | decide) (by first | assumption | (simp (disch := omega) only [mu_s, mu_n]; first | assumption | rfl)) (by rfl) ?_
        refine ev_iload (i := 4) dX8_goOrder_118 rfl ?_
        refine ev_ialoadN dX8_goOrder_120 (by first | omega | decide) (by first | assumption | (simp (disch := omega) only [mu_s, mu_n]; first | assumption | rfl)) (by omega) (by decide) ?_
        refine ev_top (i_op (hf2 a (by omega))) ?_
        refine ev_istore_n (i := 3) dX8_goOrder_121 rfl (by decide) rfl ?_
        refine ev_aload_n (i := 0) dX8_goOrder_122 rfl rfl ?_
        refine ev_getfield dX8_goOrder_123 fX8_53 (by first | omega | decide) (by first | assumption | (simp (disch := omega) only [mu_s, mu_n]; first | assumption | rfl)) (by rfl) ?_
        refine ev_iload (i := 4) dX8_goOrder_126 rfl ?_
        refine ev_aload_n (i := 0) dX8_goOrder_128 rfl rfl ?_
        refine ev_getfield dX8_goOrder_129 fX8_53 (by first | omega | decide) (by first | assumption | (simp (disch := omega) only [mu_s, mu_n]; first | assumption | rfl)) (by rfl) ?_
        refine ev_iload (i := 5) dX8_goOrder_132 rfl ?_
        refine ev_ialoadN dX8_goOrder_134 (by first | omega | decide) (by first | assumption | (simp (disch := omega) only [mu_s, mu_n]; first | assumption | rfl)) (by omega) (by decide) ?_
        refine ev_top (i_op (hf2 (b1 + 1) (by omega))) ?_
        refine ev_iastoreN dX8_goOrder_135 (by first | omega | decide) (by first | assumption | (simp (disch := omega) only [mu_s, mu_n]; first | assumption | rfl)) (by omega) (by decide) ?_
        refine ev_aload_n (i := 0) dX8_goOrder_136 rfl rfl ?_
        refine ev_getfield dX8_goOrder_137 fX8_53 (by first | omega | decide) (by first | assumption | (simp (disch := omega) only [mu_s, mu_n]; first | assumption | rfl)) (by rfl) ?_
        refine ev_iload (i := 5) dX8_goOrder_140 rfl ?_
        refine ev_iload_n (i := 3) dX8_goOrder_142 rfl rfl ?_
        refine ev_iastoreN dX8_goOrder_143 (by first | omega | decide) (by first | assumption | (simp (disch := omega) only [mu_s, mu_n]; first | assumption | rfl)) (by omega) (by decide) ?_
        refine ev_incN dX8_goOrder_144 (by rfl) (by decide) rfl ?_
        refine ev_decN dX8_goOrder_147 (by rfl) (by decide) rfl ?_
        refine ev_goto 107 dX8_goOrder_150 (by decide) ?_
        exact ih (a + 1) b1 (swN g2 a (b1 + 1)) _ _ _ _ _ (by omega) (by omega) (by omega) (sw_f hf2) (sw_l hg2 (by omega) (by omega)) (ag_mu (ag_mu ha (by omega) (by omega)) (by omega) (by omega)) (mu_s _ _ _) hgo
      · have e1 : rvN (m + 1) a b g2 = g2 := if_neg hab
        rw [e1] at hgo
        refine ev_iload (i := 4) dX8_goOrder_107 rfl ?_
        refine ev_iload (i := 5) dX8_goOrder_109 rfl ?_
        refine ev_icmp_geN 153 dX8_goOrder_111 (by decide) (by omega) (by omega) (fun b111 => ?_) (fun b111 => by exfalso; omega)
        refine ev_iconst (v := nI 1) dX8_goOrder_153 rfl ?_
        refine ev_reti dX8_goOrder_154 rfl (rfl) ?_
        exact hs _ hgo M2 f2 ha y2 hf2
  have il : ∀ (k i : Nat) (lx ly lz : Value), k ≤ i → i < n → k + 1 < n → goF n g = some (rvN n (k + 1) (n - 1) (swN g k (iSr g k i))) → Ev 88 d mX8_goOrder none 47 [.ref 72, .int (nI k), .int (nI i), lx, ly, lz] [] M P := by
    intro k i
    induction i with
    | zero =>
      intro lx ly lz hki hin hkn hgo
      obtain rfl : k = 0 := by omega
      have e1 : iSr g 0 0 = 0 := rfl
      rw [e1] at hgo
      have hg0 := hg 0 (by omega)
      refine ev_aload_n (i := 0) dX8_goOrder_47 rfl rfl ?_
      refine ev_getfield dX8_goOrder_48 fX8_53 (by first | omega | decide) (by first | assumption | (simp (disch := omega) only [mu_s, mu_n]; first | assumption | rfl)) (by rfl) ?_
      refine ev_iload_n (i := 2) dX8_goOrder_51 rfl rfl ?_
      refine ev_ialoadN dX8_goOrder_52 (by first | omega | decide) (by first | assumption | (simp (disch := omega) only [mu_s, mu_n]; first | assumption | rfl)) (by omega) (by decide) ?_
      refine ev_top (i_op (hf 0 (by omega))) ?_
      refine ev_aload_n (i := 0) dX8_goOrder_53 rfl rfl ?_
      refine ev_getfield dX8_goOrder_54 fX8_53 (by first | omega | decide) (by first | assumption | (simp (disch := omega) only [mu_s, mu_n]; first | assumption | rfl)) (by rfl) ?_
      refine ev_iload_n (i := 1) dX8_goOrder_57 rfl rfl ?_
      refine ev_ialoadN dX8_goOrder_58 (by first | omega | decide) (by first | assumption | (simp (disch := omega) only [mu_s, mu_n]; first | assumption | rfl)) (by omega) (by decide) ?_
      refine ev_top (i_op (hf 0 (by omega))) ?_
      refine ev_icmp_geN 68 dX8_goOrder_59 (by decide) (by omega) (by omega) (fun b59 => ?_) (fun b59 => by exfalso; omega)
      refine ev_aload_n (i := 0) dX8_goOrder_68 rfl rfl ?_
      refine ev_getfield dX8_goOrder_69 fX8_53 (by first | omega | decide) (by first | assumption | (simp (disch := omega) only [mu_s, mu_n]; first | assumption | rfl)) (by rfl) ?_
      refine ev_iload_n (i := 1) dX8_goOrder_72 rfl rfl ?_
      refine ev_ialoadN dX8_goOrder_73 (by first | omega | decide) (by first | assumption | (simp (disch := omega) only [mu_s, mu_n]; first | assumption | rfl)) (by omega) (by decide) ?_
      refine ev_top (i_op (hf 0 (by omega))) ?_
      refine ev_istore_n (i := 3) dX8_goOrder_74 rfl (by decide) rfl ?_
      refine ev_aload_n (i := 0) dX8_goOrder_75 rfl rfl ?_
      refine ev_getfield dX8_goOrder_76 fX8_53 (by first | omega | decide) (by first | assumption | (simp (disch := omega) only [mu_s, mu_n]; first | assumption | rfl)) (by rfl) ?_
      refine ev_iload_n (i := 1) dX8_goOrder_79 rfl rfl ?_
      refine ev_aload_n (i := 0) dX8_goOrder_80 rfl rfl ?_
      refine ev_getfield dX8_goOrder_81 fX8_53 (by first | omega | decide) (by first | assumption | (simp (disch := omega) only [mu_s, mu_n]; first | assumption | rfl)) (by rfl) ?_
      refine ev_iload_n (i := 2) dX8_goOrder_84 rfl rfl ?_
      refine ev_ialoadN dX8_goOrder_85 (by first | omega | decide) (by first | assumption | (simp (disch := omega) only [mu_s, mu_n]; first | assumption | rfl)) (by omega) (by decide) ?_
      refine ev_top (i_op (hf 0 (by omega))) ?_
      refine ev_iastoreN dX8_goOrder_86 (by first | omega | decide) (by first | assumption | (simp (disch := omega) only [mu_s, mu_n]; first | assumption | rfl)) (by omega) (by decide) ?_
      refine ev_aload_n (i := 0) dX8_goOrder_87 rfl rfl ?_
      refine ev_getfield dX8_goOrder_88 fX8_53 (by first | omega | decide) (by first | assumption | (simp (disch := omega) only [mu_s, mu_n]; first | assumption | rfl)) (by rfl) ?_
      refine ev_iload_n (i := 2) dX8_goOrder_91 rfl rfl ?_
      refine ev_iload_n (i := 3) dX8_goOrder_92 rfl rfl ?_
      refine ev_iastoreN dX8_goOrder_93 (by first | omega | decide) (by first | assumption | (simp (disch := omega) only [mu_s, mu_n]; first | assumption | rfl)) (by omega) (by decide) ?_
      refine ev_iload_n (i := 1) dX8_goOrder_94 rfl rfl ?_
      refine ev_iconst (v := nI 1) dX8_goOrder_95 rfl ?_
      refine ev_iaddN dX8_goOrder_96 ?_
      refine ev_istore (i := 4) dX8_goOrder_97 (by decide) rfl ?_
      refine ev_aload_n (i := 0) dX8_goOrder_99 rfl rfl ?_
      refine ev_getfield dX8_goOrder_100 fX8_64 (by first | omega | decide) (by first | assumption | (simp (disch := omega) only [mu_s, mu_n]; first | assumption | rfl)) (by rfl) ?_
      refine ev_iconst (v := nI 1) dX8_goOrder_103 rfl ?_
      refine ev_isubN dX8_goOrder_104 (by omega) ?_
      refine ev_istore (i := 5) dX8_goOrder_105 (by decide) rfl ?_
      exact rv n 1 (n - 1) _ _ _ _ _ _ (by omega) (by omega) (by omega) (sw_f hf) (sw_l hg (by omega) (by omega)) (ag_mu (ag_mu (ag_rf M _ _) (by omega) (by omega)) (by omega) (by omega)) (mu_s _ _ _) hgo
    | succ i ih =>
      intro lx ly lz hki hin hkn hgo
      have hgi := hg (i + 1) hin
      have hgk := hg k (by omega)
      by_cases hlt : g (i + 1) < g k
      · have e1 : iSr g k (i + 1) = iSr g k i := if_pos hlt
        rw [e1] at hgo
        have hne : i + 1 ≠ k := fun z => by rw [z] at hlt; omega
        refine ev_aload_n (i := 0) dX8_goOrder_47 rfl rfl ?_
        refine ev_getfield dX8_goOrder_48 fX8_53 (by first | omega | decide) (by first | assumption | (simp (disch := omega) only [mu_s, mu_n]; first | assumption | rfl)) (by rfl) ?_
        refine ev_iload_n (i := 2) dX8_goOrder_51 rfl rfl ?_
        refine ev_ialoadN dX8_goOrder_52 (by first | omega | decide) (by first | assumption | (simp (disch := omega) only [mu_s, mu_n]; first | assumption | rfl)) (by omega) (by decide) ?_
        refine ev_top (i_op (hf (i + 1) hin)) ?_
        refine ev_aload_n (i := 0) dX8_goOrder_53 rfl rfl ?_
        refine ev_getfield dX8_goOrder_54 fX8_53 (by first | omega | decide) (by first | assumption | (simp (disch := omega) only [mu_s, mu_n]; first | assumption | rfl)) (by rfl) ?_
        refine ev_iload_n (i := 1) dX8_goOrder_57 rfl rfl ?_
        refine ev_ialoadN dX8_goOrder_58 (by first | omega | decide) (by first | assumption | (simp (disch := omega) only [mu_s, mu_n]; first | assumption | rfl)) (by omega) (by decide) ?_
        refine ev_top (i_op (hf k (by omega))) ?_
        refine ev_icmp_geN 68 dX8_goOrder_59 (by decide) (by omega) (by omega) (fun b59 => by exfalso; omega) (fun b59 => ?_)
        refine ev_decN dX8_goOrder_62 (by rfl) (by decide) rfl ?_
        refine ev_goto 47 dX8_goOrder_65 (by decide) ?_
        exact ih _ _ _ (by omega) (by omega) hkn hgo
      · have e1 : iSr g k (i + 1) = i + 1 := if_neg hlt
        rw [e1] at hgo
        refine ev_aload_n (i := 0) dX8_goOrder_47 rfl rfl ?_
        refine ev_getfield dX8_goOrder_48 fX8_53 (by first | omega | decide) (by first | assumption | (simp (disch := omega) only [mu_s, mu_n]; first | assumption | rfl)) (by rfl) ?_
        refine ev_iload_n (i := 2) dX8_goOrder_51 rfl rfl ?_
        refine ev_ialoadN dX8_goOrder_52 (by first | omega | decide) (by first | assumption | (simp (disch := omega) only [mu_s, mu_n]; first | assumption | rfl)) (by omega) (by decide) ?_
        refine ev_top (i_op (hf (i + 1) hin)) ?_
        refine ev_aload_n (i := 0) dX8_goOrder_53 rfl rfl ?_
        refine ev_getfield dX8_goOrder_54 fX8_53 (by first | omega | decide) (by first | assumption | (simp (disch := omega) only [mu_s, mu_n]; first | assumption | rfl)) (by rfl) ?_
        refine ev_iload_n (i := 1) dX8_goOrder_57 rfl rfl ?_
        refine ev_ialoadN dX8_goOrder_58 (by first | omega | decide) (by first | assumption | (simp (disch := omega) only [mu_s, mu_n]; first | assumption | rfl)) (by omega) (by decide) ?_
        refine ev_top (i_op (hf k (by omega))) ?_
        refine ev_icmp_geN 68 dX8_goOrder_59 (by decide) (by omega) (by omega) (fun b59 => ?_) (fun b59 => by exfalso; omega)
        refine ev_aload_n (i := 0) dX8_goOrder_68 rfl rfl ?_
        refine ev_getfield dX8_goOrder_69 fX8_53 (by first | omega | decide) (by first | assumption | (simp (disch := omega) only [mu_s, mu_n]; first | assumption | rfl)) (by rfl) ?_
        refine ev_iload_n (i := 1) dX8_goOrder_72 rfl rfl ?_
        refine ev_ialoadN dX8_goOrder_73 (by first | omega | decide) (by first | assumption | (simp (disch := omega) only [mu_s, mu_n]; first | assumption | rfl)) (by omega) (by decide) ?_
        refine ev_top (i_op (hf k (by omega))) ?_
        refine ev_istore_n (i := 3) dX8_goOrder_74 rfl (by decide) rfl ?_
        refine ev_aload_n (i := 0) dX8_goOrder_75 rfl rfl ?_
        refine ev_getfield dX8_goOrder_76 fX8_53 (by first | omega | decide) (by first | assumption | (simp (disch := omega) only [mu_s, mu_n]; first | assumption | rfl)) (by rfl) ?_
        refine ev_iload_n (i := 1) dX8_goOrder_79 rfl rfl ?_
        refine ev_aload_n (i := 0) dX8_goOrder_80 rfl rfl ?_
        refine ev_getfield dX8_goOrder_81 fX8_53 (by first | omega | decide) (by first | assumption | (simp (disch := omega) only [mu_s, mu_n]; first | assumption | rfl)) (by rfl) ?_
        refine ev_iload_n (i := 2) dX8_goOrder_84 rfl rfl ?_
        refine ev_ialoadN dX8_goOrder_85 (by first | omega | decide) (by first | assumption | (simp (disch := omega) only [mu_s, mu_n]; first | assumption | rfl)) (by omega) (by decide) ?_
        refine ev_top (i_op (hf (i + 1) hin)) ?_
        refine ev_iastoreN dX8_goOrder_86 (by first | omega | decide) (by first | assumption | (simp (disch := omega) only [mu_s, mu_n]; first | assumption | rfl)) (by omega) (by decide) ?_
        refine ev_aload_n (i := 0) dX8_goOrder_87 rfl rfl ?_
        refine ev_getfield dX8_goOrder_88 fX8_53 (by first | omega | decide) (by first | assumption | (simp (disch := omega) only [mu_s, mu_n]; first | assumption | rfl)) (by rfl) ?_
        refine ev_iload_n (i := 2) dX8_goOrder_91 rfl rfl ?_
        refine ev_iload_n (i := 3) dX8_goOrder_92 rfl rfl ?_
        refine ev_iastoreN dX8_goOrder_93 (by first | omega | decide) (by first | assumption | (simp (disch := omega) only [mu_s, mu_n]; first | assumption | rfl)) (by omega) (by decide) ?_
        refine ev_iload_n (i := 1) dX8_goOrder_94 rfl rfl ?_
        refine ev_iconst (v := nI 1) dX8_goOrder_95 rfl ?_
        refine ev_iaddN dX8_goOrder_96 ?_
        refine ev_istore (i := 4) dX8_goOrder_97 (by decide) rfl ?_
        refine ev_aload_n (i := 0) dX8_goOrder_99 rfl rfl ?_
        refine ev_getfield dX8_goOrder_100 fX8_64 (by first | omega | decide) (by first | assumption | (simp (disch := omega) only [mu_s, mu_n]; first | assumption | rfl)) (by rfl) ?_
        refine ev_iconst (v := nI 1) dX8_goOrder_103 rfl ?_
        refine ev_isubN dX8_goOrder_104 (by omega) ?_
        refine ev_istore (i := 5) dX8_goOrder_105 (by decide) rfl ?_
        exact rv n (k + 1) (n - 1) _ _ _ _ _ _ (by omega) (by omega) (by omega) (sw_f hf) (sw_l hg (by omega) hin) (ag_mu (ag_mu (ag_rf M _ _) (by omega) (by omega)) (by omega) (by omega)) (mu_s _ _ _) hgo
  have no : ∀ (x : Int32) (lx ly lz lw : Value), x < 0 → goF n g = none → Ev 88 d mX8_goOrder none 7 [.ref 72, .int x, lx, ly, lz, lw] [] M P := by
    intro x lx ly lz lw hx hgo
    refine ev_iload_n (i := 1) dX8_goOrder_7 rfl rfl ?_
    refine ev_if_lt 34 dX8_goOrder_8 (by decide) (fun b8 => ?_) (fun b8 => absurd hx b8)
    refine ev_iload_n (i := 1) dX8_goOrder_34 rfl rfl ?_
    refine ev_if_ge 40 dX8_goOrder_35 (by decide) (fun b35 => absurd (Int32.not_le.mpr hx) (by simpa using b35)) (fun b35 => ?_)
    refine ev_iconst (v := nI 0) dX8_goOrder_38 rfl ?_
    refine ev_reti dX8_goOrder_39 rfl (rfl) ?_
    exact hn hgo
  have kl : ∀ (k : Nat) (lx ly lz lw : Value), k + 1 < n → kSr g (n - 1) = kSr g (k + 1) → Ev 88 d mX8_goOrder none 7 [.ref 72, .int (nI k), lx, ly, lz, lw] [] M P := by
    intro k
    induction k with
    | zero =>
      intro lx ly lz lw hk hq
      have hg0 := hg 0 (by omega)
      have hg1 := hg 1 (by omega)
      by_cases hlt : g 1 < g 0
      · have e1 : kSr g 1 = none := if_pos hlt
        have hgo : goF n g = none := by unfold goF; rw [hq, e1]
        refine ev_iload_n (i := 1) dX8_goOrder_7 rfl rfl ?_
        refine ev_if_ltN 34 dX8_goOrder_8 (by decide) (by omega) (fun b8 => by exfalso; omega) (fun b8 => ?_)
        refine ev_aload_n (i := 0) dX8_goOrder_11 rfl rfl ?_
        refine ev_getfield dX8_goOrder_12 fX8_53 (by first | omega | decide) (by first | assumption | (simp (disch := omega) only [mu_s, mu_n]; first | assumption | rfl)) (by rfl) ?_
        refine ev_iload_n (i := 1) dX8_goOrder_15 rfl rfl ?_
        refine ev_ialoadN dX8_goOrder_16 (by first | omega | decide) (by first | assumption | (simp (disch := omega) only [mu_s, mu_n]; first | assumption | rfl)) (by omega) (by decide) ?_
        refine ev_top (i_op (hf 0 (by omega))) ?_
        refine ev_aload_n (i := 0) dX8_goOrder_17 rfl rfl ?_
        refine ev_getfield dX8_goOrder_18 fX8_53 (by first | omega | decide) (by first | assumption | (simp (disch := omega) only [mu_s, mu_n]; first | assumption | rfl)) (by rfl) ?_
        refine ev_iload_n (i := 1) dX8_goOrder_21 rfl rfl ?_
        refine ev_iconst (v := nI 1) dX8_goOrder_22 rfl ?_
        refine ev_iaddN dX8_goOrder_23 ?_
        refine ev_ialoadN dX8_goOrder_24 (by first | omega | decide) (by first | assumption | (simp (disch := omega) only [mu_s, mu_n]; first | assumption | rfl)) (by omega) (by decide) ?_
        refine ev_top (i_op (hf 1 (by omega))) ?_
        refine ev_icmp_leN 34 dX8_goOrder_25 (by decide) (by omega) (by omega) (fun b25 => by exfalso; omega) (fun b25 => ?_)
        refine ev_iinc dX8_goOrder_28 (by rfl) rfl (by decide) rfl ?_
        refine ev_goto 7 dX8_goOrder_31 (by decide) ?_
        exact no _ _ _ _ _ (by decide) hgo
      · have e1 : kSr g 1 = some 0 := if_neg hlt
        have hgo : goF n g = some (rvN n 1 (n - 1) (swN g 0 (iSr g 0 (n - 1)))) := by unfold goF; rw [hq, e1]
        refine ev_iload_n (i := 1) dX8_goOrder_7 rfl rfl ?_
        refine ev_if_ltN 34 dX8_goOrder_8 (by decide) (by omega) (fun b8 => by exfalso; omega) (fun b8 => ?_)
        refine ev_aload_n (i := 0) dX8_goOrder_11 rfl rfl ?_
        refine ev_getfield dX8_goOrder_12 fX8_53 (by first | omega | decide) (by first | assumption | (simp (disch := omega) only [mu_s, mu_n]; first | assumption | rfl)) (by rfl) ?_
        refine ev_iload_n (i := 1) dX8_goOrder_15 rfl rfl ?_
        refine ev_ialoadN dX8_goOrder_16 (by first | omega | decide) (by first | assumption | (simp (disch := omega) only [mu_s, mu_n]; first | assumption | rfl)) (by omega) (by decide) ?_
        refine ev_top (i_op (hf 0 (by omega))) ?_
        refine ev_aload_n (i := 0) dX8_goOrder_17 rfl rfl ?_
        refine ev_getfield dX8_goOrder_18 fX8_53 (by first | omega | decide) (by first | assumption | (simp (disch := omega) only [mu_s, mu_n]; first | assumption | rfl)) (by rfl) ?_
        refine ev_iload_n (i := 1) dX8_goOrder_21 rfl rfl ?_
        refine ev_iconst (v := nI 1) dX8_goOrder_22 rfl ?_
        refine ev_iaddN dX8_goOrder_23 ?_
        refine ev_ialoadN dX8_goOrder_24 (by first | omega | decide) (by first | assumption | (simp (disch := omega) only [mu_s, mu_n]; first | assumption | rfl)) (by omega) (by decide) ?_
        refine ev_top (i_op (hf 1 (by omega))) ?_
        refine ev_icmp_leN 34 dX8_goOrder_25 (by decide) (by omega) (by omega) (fun b25 => ?_) (fun b25 => by exfalso; omega)
        refine ev_iload_n (i := 1) dX8_goOrder_34 rfl rfl ?_
        refine ev_if_geN 40 dX8_goOrder_35 (by decide) (by omega) (fun b35 => ?_) (fun b35 => by exfalso; omega)
        refine ev_aload_n (i := 0) dX8_goOrder_40 rfl rfl ?_
        refine ev_getfield dX8_goOrder_41 fX8_64 (by first | omega | decide) (by first | assumption | (simp (disch := omega) only [mu_s, mu_n]; first | assumption | rfl)) (by rfl) ?_
        refine ev_iconst (v := nI 1) dX8_goOrder_44 rfl ?_
        refine ev_isubN dX8_goOrder_45 (by omega) ?_
        refine ev_istore_n (i := 2) dX8_goOrder_46 rfl (by decide) rfl ?_
        exact il 0 (n - 1) _ _ _ (by omega) (by omega) hk hgo
    | succ k ih =>
      intro lx ly lz lw hk hq
      have hg0 := hg (k + 1) (by omega)
      have hg1 := hg (k + 1 + 1) (by omega)
      by_cases hlt : g (k + 1 + 1) < g (k + 1)
      · have e1 : kSr g (k + 1 + 1) = kSr g (k + 1) := if_pos hlt
        refine ev_iload_n (i := 1) dX8_goOrder_7 rfl rfl ?_
        refine ev_if_ltN 34 dX8_goOrder_8 (by decide) (by omega) (fun b8 => by exfalso; omega) (fun b8 => ?_)
        refine ev_aload_n (i := 0) dX8_goOrder_11 rfl rfl ?_
        refine ev_getfield dX8_goOrder_12 fX8_53 (by first | omega | decide) (by first | assumption | (simp (disch := omega) only [mu_s, mu_n]; first | assumption | rfl)) (by rfl) ?_
        refine ev_iload_n (i := 1) dX8_goOrder_15 rfl rfl ?_
        refine ev_ialoadN dX8_goOrder_16 (by first | omega | decide) (by first | assumption | (simp (disch := omega) only [mu_s, mu_n]; first | assumption | rfl)) (by omega) (by decide) ?_
        refine ev_top (i_op (hf (k + 1) (by omega))) ?_
        refine ev_aload_n (i := 0) dX8_goOrder_17 rfl rfl ?_
        refine ev_getfield dX8_goOrder_18 fX8_53 (by first | omega | decide) (by first | assumption | (simp (disch := omega) only [mu_s, mu_n]; first | assumption | rfl)) (by rfl) ?_
        refine ev_iload_n (i := 1) dX8_goOrder_21 rfl rfl ?_
        refine ev_iconst (v := nI 1) dX8_goOrder_22 rfl ?_
        refine ev_iaddN dX8_goOrder_23 ?_
        refine ev_ialoadN dX8_goOrder_24 (by first | omega | decide) (by first | assumption | (simp (disch := omega) only [mu_s, mu_n]; first | assumption | rfl)) (by omega) (by decide) ?_
        refine ev_top (i_op (hf (k + 1 + 1) (by omega))) ?_
        refine ev_icmp_leN 34 dX8_goOrder_25 (by decide) (by omega) (by omega) (fun b25 => by exfalso; omega) (fun b25 => ?_)
        refine ev_decN dX8_goOrder_28 (by rfl) (by decide) rfl ?_
        refine ev_goto 7 dX8_goOrder_31 (by decide) ?_
        exact ih _ _ _ _ (by omega) (hq.trans e1)
      · have e1 : kSr g (k + 1 + 1) = some (k + 1) := if_neg hlt
        have hgo : goF n g = some (rvN n (k + 1 + 1) (n - 1) (swN g (k + 1) (iSr g (k + 1) (n - 1)))) := by unfold goF; rw [hq, e1]
        refine ev_iload_n (i := 1) dX8_goOrder_7 rfl rfl ?_
        refine ev_if_ltN 34 dX8_goOrder_8 (by decide) (by omega) (fun b8 => by exfalso; omega) (fun b8 => ?_)
        refine ev_aload_n (i := 0) dX8_goOrder_11 rfl rfl ?_
        refine ev_getfield dX8_goOrder_12 fX8_53 (by first | omega | decide) (by first | assumption | (simp (disch := omega) only [mu_s, mu_n]; first | assumption | rfl)) (by rfl) ?_
        refine ev_iload_n (i := 1) dX8_goOrder_15 rfl rfl ?_
        refine ev_ialoadN dX8_goOrder_16 (by first | omega | decide) (by first | assumption | (simp (disch := omega) only [mu_s, mu_n]; first | assumption | rfl)) (by omega) (by decide) ?_
        refine ev_top (i_op (hf (k + 1) (by omega))) ?_
        refine ev_aload_n (i := 0) dX8_goOrder_17 rfl rfl ?_
        refine ev_getfield dX8_goOrder_18 fX8_53 (by first | omega | decide) (by first | assumption | (simp (disch := omega) only [mu_s, mu_n]; first | assumption | rfl)) (by rfl) ?_
        refine ev_iload_n (i := 1) dX8_goOrder_21 rfl rfl ?_
        refine ev_iconst (v := nI 1) dX8_goOrder_22 rfl ?_
        refine ev_iaddN dX8_goOrder_23 ?_
        refine ev_ialoadN dX8_goOrder_24 (by first | omega | decide) (by first | assumption | (simp (disch := omega) only [mu_s, mu_n]; first | assumption | rfl)) (by omega) (by decide) ?_
        refine ev_top (i_op (hf (k + 1 + 1) (by omega))) ?_
        refine ev_icmp_leN 34 dX8_goOrder_25 (by decide) (by omega) (by omega) (fun b25 => ?_) (fun b25 => by exfalso; omega)
        refine ev_iload_n (i := 1) dX8_goOrder_34 rfl rfl ?_
        refine ev_if_geN 40 dX8_goOrder_35 (by decide) (by omega) (fun b35 => ?_) (fun b35 => by exfalso; omega)
        refine ev_aload_n (i := 0) dX8_goOrder_40 rfl rfl ?_
        refine ev_getfield dX8_goOrder_41 fX8_64 (by first | omega | decide) (by first | assumption | (simp (disch := omega) only [mu_s, mu_n]; first | assumption | rfl)) (by rfl) ?_
        refine ev_iconst (v := nI 1) dX8_goOrder_44 rfl ?_
        refine ev_isubN dX8_goOrder_45 (by omega) ?_
        refine ev_istore_n (i := 2) dX8_goOrder_46 rfl (by decide) rfl ?_
        exact il (k + 1) (n - 1) _ _ _ (by omega) (by omega) hk hgo
  rcases (show n = 0 ∨ n = 1 ∨ 2 ≤ n by omega) with q | q | q
  · subst q
    refine ev_aload_n (i := 0) dX8_goOrder_0 rfl rfl ?_
    refine ev_getfield dX8_goOrder_1 fX8_64 (by first | omega | decide) (by first | assumption | (simp (disch := omega) only [mu_s, mu_n]; first | assumption | rfl)) (by rfl) ?_
    refine ev_iconst (v := nI 2) dX8_goOrder_4 rfl ?_
    refine ev_isub dX8_goOrder_5 ?_
    refine ev_istore_n (i := 1) dX8_goOrder_6 rfl (by decide) rfl ?_
    exact no _ _ _ _ _ (by decide) rfl
  · subst q
    refine ev_aload_n (i := 0) dX8_goOrder_0 rfl rfl ?_
    refine ev_getfield dX8_goOrder_1 fX8_64 (by first | omega | decide) (by first | assumption | (simp (disch := omega) only [mu_s, mu_n]; first | assumption | rfl)) (by rfl) ?_
    refine ev_iconst (v := nI 2) dX8_goOrder_4 rfl ?_
    refine ev_isub dX8_goOrder_5 ?_
    refine ev_istore_n (i := 1) dX8_goOrder_6 rfl (by decide) rfl ?_
    exact no _ _ _ _ _ (by decide) rfl
  · have r := kl (n - 2) .null .null .null .null (by omega) (by rw [show n - 2 + 1 = n - 1 by omega])
    refine ev_aload_n (i := 0) dX8_goOrder_0 rfl rfl ?_
    refine ev_getfield dX8_goOrder_1 fX8_64 (by first | omega | decide) (by first | assumption | (simp (disch := omega) only [mu_s, mu_n]; first | assumption | rfl)) (by rfl) ?_
    refine ev_iconst (v := nI 2) dX8_goOrder_4 rfl ?_
    refine ev_isubN dX8_goOrder_5 (by omega) ?_
    refine ev_istore_n (i := 1) dX8_goOrder_6 rfl (by decide) rfl ?_
    exact r
theorem kR_w {M M1 : mM} {s : cs} (h : kR M s) (hg : ag M M1 87 88) (hn : ∃ f, M1 87 = .inl (0, 6, .inl f)) : kR M1 s := by
  obtain ⟨h2, h3, h4, ⟨q, h5⟩, h6, h7, h8, ⟨⟨f2, h9⟩, ⟨f3, h10⟩, -⟩⟩ := h
  exact ⟨arr_ag h2 hg (by omega), kML_ag h3 hg (by omega), kG_ag h4 hg (by omega), ⟨q, kG_ag h5 hg (by omega)⟩, kBk_ag h6 hg (by omega), kKp_ag h7 hg (by omega), kMV_ag h8 hg (by omega), ⟨⟨f2, (hg _ (by omega)).trans h9⟩, ⟨f3, (hg _ (by omega)).trans h10⟩, hn⟩⟩
variable {s : cs}

theorem R_orders {x : Int32} (h : kM M s) (ho : cOk s) (hp : ∀ M1, ag M M1 72 88 → kM M1 (s) → P (some (.int (a_orders s x))) M1) : Ev 88 7 mX8_orders none 0 [.ref 72, .int x, .null, .null, .null] [] M P := by
  refine m_thr dX8_orders_0 dX8_orders_1 dX8_orders_2 fwX8_60 h (fun M0 a0 h => ?_)
  replace hp : ∀ M1, ag M0 M1 72 88 → kM M1 (s) → P (some (.int (a_orders s x))) M1 := fun M1 ha hk => hp M1 (ag_tr (ag_wd a0 : ag M M0 72 88) ha) hk
  clear a0
  obtain ⟨t, l, p, a, sl, v, sd⟩ := s
  obtain ⟨⟨e, x0⟩, hR⟩ := id h
  obtain ⟨h1, h2, h3, h11, h4, h5, h6, h7⟩ : arr M0 73 40 t.1 t.2 ∧ kML M0 l ∧ kG M0 79 p ∧ (∃ q, kG M0 80 q) ∧ kBk M0 a ∧ kKp M0 sl ∧ kMV M0 v ∧ kX M0 := id hR
  obtain ⟨o1, o2, o3, o4, o5, o6, o7⟩ : txOk t ∧ ltOk l ∧ pgOk p ∧ (∀ q ∈ a, pgOk q) ∧ a.length ≤ 14 ∧ (∀ i q, sl i = some q → pgOk q) ∧ ovOk v := ho
  have hO : kO M0 e t.1 l.1 a.length v.1 sd := x0
  have hl6 := o2.1
  have hv6 := o7.1
  unfold kO at x0
  unfold a_orders at hp
  cases hx : inR x 2 with
  | true =>
    rw [if_pos hx] at hp
    obtain ⟨w, hw, rfl⟩ := inR_of hx (by decide)
    rw [n_cl (by omega)] at hp
    obtain ⟨n, hn⟩ : ∃ n, n = l.1 := ⟨_, rfl⟩
    obtain ⟨C1, C2, C3, C4⟩ := ch_all l.1 (by omega)
    rw [hm_fc hl6, fo_L, ← fi_L hl6 l.1 0 (by rw [cnt_z]; omega) (Nat.two_pow_pos _)] at hp
    have hall : ∀ q, q ∈ pmN l.1 l.1 0 → ovB v l.1 (gL q) = okS v l.1 0 q ∧ (∀ i, i < l.1 → gL q i < l.1) ∧ fgK (gL q) l.1 = fgL q 0 ∧ fgL q 0 < 1000000 := by
      intro q hq
      have h1 := List.all_eq_true.mp (fin_all l.1 (by omega)) q hq
      have h2 := List.all_eq_true.mp (fg_all l.1 (by omega)) q hq
      unfold fin1 at h1
      rw [Bool.and_eq_true, Bool.and_eq_true] at h1
      rw [Bool.and_eq_true] at h2
      exact ⟨ov_ok hl6 o7 hq, fun i hi => of_decide_eq_true (allB_i.mp h1.1.2 i hi), eq_of_beq h2.1, of_decide_eq_true h2.2⟩
    have fin : ∀ (M1 : mM) (e1 : Nat → Int32) (lx ly : Value), ag M0 M1 72 88 → kO M1 e1 t.1 l.1 a.length v.1 sd → kR M1 (t, l, p, a, sl, v, sd) → e1 3 = nI ((pmN l.1 l.1 0).countP (okS v l.1 0)) → e1 6 = oI (((pmN l.1 l.1 0).find? (okS v l.1 0)).map (fun q => fgL q 0)) → Ev 88 7 mX8_orders none 54 [.ref 72, .int (nI w), .int (bI false), lx, ly] [] M1 P := by
      intro M1 e1 lx ly ha yO yR q3 q6
      have z0 := yO
      unfold kO at z0
      by_cases hw0 : w = 0
      · rw [if_pos hw0] at hp
        refine ev_iload_n (i := 2) dX8_orders_54 rfl rfl ?_
        refine ev_if_eqB 137 dX8_orders_55 (by decide) (fun b55 => ?_) (fun b55 => by cases b55)
        refine ev_iload_n (i := 1) dX8_orders_137 rfl rfl ?_
        refine ev_if_neN 148 dX8_orders_138 (by decide) (by omega) (fun b138 => by exfalso; omega) (fun b138 => ?_)
        refine ev_aload_n (i := 0) dX8_orders_141 rfl rfl ?_
        refine ev_getfield dX8_orders_142 fX8_144 (by first | omega | decide) (by first | assumption | (simp (disch := omega) only [mu_s, mu_n]; first | assumption | rfl)) (by rfl) ?_
        refine ev_goto 152 dX8_orders_145 (by decide) ?_
        refine ev_reti dX8_orders_152 rfl rfl ?_
        rw [q3]; exact hp M1 ha ⟨⟨e1, yO⟩, yR⟩
      · rw [if_neg hw0] at hp
        refine ev_iload_n (i := 2) dX8_orders_54 rfl rfl ?_
        refine ev_if_eqB 137 dX8_orders_55 (by decide) (fun b55 => ?_) (fun b55 => by cases b55)
        refine ev_iload_n (i := 1) dX8_orders_137 rfl rfl ?_
        refine ev_if_neN 148 dX8_orders_138 (by decide) (by omega) (fun b138 => ?_) (fun b138 => by exfalso; omega)
        refine ev_aload_n (i := 0) dX8_orders_148 rfl rfl ?_
        refine ev_getfield dX8_orders_149 fX8_179 (by first | omega | decide) (by first | assumption | (simp (disch := omega) only [mu_s, mu_n]; first | assumption | rfl)) (by rfl) ?_
        refine ev_reti dX8_orders_152 rfl rfl ?_
        rw [q6]; exact hp M1 ha ⟨⟨e1, yO⟩, yR⟩
    have fg : ∀ (q : List Nat) (M1 : mM) (e1 f1 : Nat → Int32), kO M1 e1 t.1 l.1 a.length v.1 sd → M1 87 = .inl (0, 6, .inl f1) → (∀ i, i < l.1 → f1 i = nI (gL q i)) → (Ev 88 7 mX8_orders none 100 [.ref 72, .int (nI w), .int (bI true), .int (nI (fgK (gL q) l.1)), .int (nI l.1)] [] M1 P) → ∀ (j k : Nat), k + j = l.1 → Ev 88 7 mX8_orders none 70 [.ref 72, .int (nI w), .int (bI true), .int (nI (fgK (gL q) k)), .int (nI k)] [] M1 P := by
      intro q M1 e1 f1 yO y87 hf kk j
      have z0 := yO
      unfold kO at z0
      induction j with
      | zero =>
        intro k hk
        obtain rfl : k = l.1 := by omega
        refine ev_iload (i := 4) dX8_orders_70 rfl ?_
        refine ev_aload_n (i := 0) dX8_orders_72 rfl rfl ?_
        refine ev_getfield dX8_orders_73 fX8_64 (by first | omega | decide) (by first | assumption | (simp (disch := omega) only [mu_s, mu_n]; first | assumption | rfl)) (by rfl) ?_
        refine ev_icmp_geN 100 dX8_orders_76 (by decide) (by omega) (by omega) (fun b76 => ?_) (fun b76 => by exfalso; omega)
        exact kk
      | succ j ih =>
        intro k hk
        refine ev_iload (i := 4) dX8_orders_70 rfl ?_
        refine ev_aload_n (i := 0) dX8_orders_72 rfl rfl ?_
        refine ev_getfield dX8_orders_73 fX8_64 (by first | omega | decide) (by first | assumption | (simp (disch := omega) only [mu_s, mu_n]; first | assumption | rfl)) (by rfl) ?_
        refine ev_icmp_geN 100 dX8_orders_76 (by decide) (by omega) (by omega) (fun b76 => by exfalso; omega) (fun b76 => ?_)
        refine ev_bipush (v := nI 10) dX8_orders_79 rfl ?_
        refine ev_iload_n (i := 3) dX8_orders_81 rfl rfl ?_
        refine ev_imulN dX8_orders_82 ?_
        refine ev_aload_n (i := 0) dX8_orders_83 rfl rfl ?_
        refine ev_getfield dX8_orders_84 fX8_53 (by first | omega | decide) (by first | assumption | (simp (disch := omega) only [mu_s, mu_n]; first | assumption | rfl)) (by rfl) ?_
        refine ev_iload (i := 4) dX8_orders_87 rfl ?_
        refine ev_ialoadN dX8_orders_89 (by first | omega | decide) (by first | assumption | (simp (disch := omega) only [mu_s, mu_n]; first | assumption | rfl)) (by omega) (by decide) ?_
        refine ev_top (i_op (hf k (by omega))) ?_
        refine ev_iaddN dX8_orders_90 ?_
        refine ev_iconst (v := nI 1) dX8_orders_91 rfl ?_
        refine ev_iaddN dX8_orders_92 ?_
        refine ev_istore_n (i := 3) dX8_orders_93 rfl (by decide) rfl ?_
        refine ev_incN dX8_orders_94 (by rfl) (by decide) rfl ?_
        refine ev_goto 70 dX8_orders_97 (by decide) ?_
        exact ih (k + 1) (by omega)
    have hlen : ∀ (done : List (List Nat)) (q : List Nat) (rest : List (List Nat)), done ++ q :: rest = pmN l.1 l.1 0 → done.countP (okS v l.1 0) ≤ 720 := by
      intro done q rest hL
      have h1 := List.countP_le_length (p := okS v l.1 0) (l := done)
      have h2 := C3
      rw [← hL, List.length_append] at h2
      omega
    -- one order: the counts behind it, then the next
    have one : ∀ (q : List Nat) (done rest : List (List Nat)) (M1 : mM) (e1 f1 : Nat → Int32) (lx ly : Value), done ++ q :: rest = pmN l.1 l.1 0 → ag M0 M1 72 88 → kO M1 e1 t.1 l.1 a.length v.1 sd → kR M1 (t, l, p, a, sl, v, sd) → M1 87 = .inl (0, 6, .inl f1) → (∀ i, i < l.1 → f1 i = nI (gL q i)) → e1 3 = nI (done.countP (okS v l.1 0)) → e1 6 = oI ((done.find? (okS v l.1 0)).map (fun q => fgL q 0)) → (∀ (M2 : mM) (e2 : Nat → Int32) (lx ly : Value), ag M0 M2 72 88 → kO M2 e2 t.1 l.1 a.length v.1 sd → kR M2 (t, l, p, a, sl, v, sd) → M2 87 = .inl (0, 6, .inl f1) → e2 3 = nI ((done ++ [q]).countP (okS v l.1 0)) → e2 6 = oI (((done ++ [q]).find? (okS v l.1 0)).map (fun q => fgL q 0)) → Ev 88 7 mX8_orders none 129 [.ref 72, .int (nI w), .int (bI true), lx, ly] [] M2 P) → Ev 88 7 mX8_orders none 54 [.ref 72, .int (nI w), .int (bI true), lx, ly] [] M1 P := by
      intro q done rest M1 e1 f1 lx ly hL ha yO yR y87 hf q3 q6 kk
      have z0 := yO
      unfold kO at z0
      obtain ⟨H1, H2, H3, H4⟩ := hall q (by rw [← hL]; exact List.mem_append_right _ List.mem_cons_self)
      have hdn := hlen done q rest hL
      cases hq : okS v l.1 0 q with
      | false =>
        have k3 : (done ++ [q]).countP (okS v l.1 0) = done.countP (okS v l.1 0) := by rw [List.countP_append, List.countP_cons_of_neg (by rw [hq]; decide)]; rfl
        have k6 : (done ++ [q]).find? (okS v l.1 0) = done.find? (okS v l.1 0) := by rw [List.find?_append, List.find?_cons_of_neg (by rw [hq]; decide)]; exact Option.or_none
        have r := fun lx ly => kk M1 e1 lx ly ha yO yR y87 (by rw [k3]; exact q3) (by rw [k6]; exact q6)
        refine ev_iload_n (i := 2) dX8_orders_54 rfl rfl ?_
        refine ev_if_eqB 137 dX8_orders_55 (by decide) (fun b55 => by cases b55) (fun b55 => ?_)
        refine ev_aload_n (i := 0) dX8_orders_58 rfl rfl ?_
        refine ev_V0 (μ1 := mX8_isOver) dX8_orders_59 sX8_182 okX8_isOver (by first | omega | decide) (by first | assumption | (simp (disch := omega) only [mu_s, mu_n]; first | assumption | rfl)) (Nat.le_of_ble_eq_true rfl) (Nat.le_of_ble_eq_true rfl) ?_
        refine c_isOver yO yR.2.2.2.2.2.2.1 o7 hl6 y87 hf H2 ?_
        refine ev_if_eqB 129 dX8_orders_62 (by decide) (fun b62 => ?_) (fun b62 => by rw [H1, hq] at b62; cases b62)
        exact r _ _
      | true =>
        have k3 : (done ++ [q]).countP (okS v l.1 0) = done.countP (okS v l.1 0) + 1 := by rw [List.countP_append, List.countP_cons_of_pos hq]; rfl
        have k6 : (done ++ [q]).find? (okS v l.1 0) = (done.find? (okS v l.1 0)).or (some q) := by rw [List.find?_append, List.find?_cons_of_pos hq]
        by_cases h0 : done.countP (okS v l.1 0) = 0
        · have hno : done.find? (okS v l.1 0) = none := fn_c.mpr h0
          refine ev_iload_n (i := 2) dX8_orders_54 rfl rfl ?_
          refine ev_if_eqB 137 dX8_orders_55 (by decide) (fun b55 => by cases b55) (fun b55 => ?_)
          refine ev_aload_n (i := 0) dX8_orders_58 rfl rfl ?_
          refine ev_V0 (μ1 := mX8_isOver) dX8_orders_59 sX8_182 okX8_isOver (by first | omega | decide) (by first | assumption | (simp (disch := omega) only [mu_s, mu_n]; first | assumption | rfl)) (Nat.le_of_ble_eq_true rfl) (Nat.le_of_ble_eq_true rfl) ?_
          refine c_isOver yO yR.2.2.2.2.2.2.1 o7 hl6 y87 hf H2 ?_
          refine ev_if_eqB 129 dX8_orders_62 (by decide) (fun b62 => by rw [H1, hq] at b62; cases b62) (fun b62 => ?_)
          refine ev_iconst (v := nI 0) dX8_orders_65 rfl ?_
          refine ev_istore_n (i := 3) dX8_orders_66 rfl (by decide) rfl ?_
          refine ev_iconst (v := nI 0) dX8_orders_67 rfl ?_
          refine ev_istore (i := 4) dX8_orders_68 (by decide) rfl ?_
          refine fg q M1 e1 f1 yO y87 hf ?_ l.1 0 (by omega)
          rw [H3]
          refine ev_aload_n (i := 0) dX8_orders_100 rfl rfl ?_
          refine ev_aload_n (i := 0) dX8_orders_101 rfl rfl ?_
          refine ev_getfield dX8_orders_102 fX8_144 (by first | omega | decide) (by first | assumption | (simp (disch := omega) only [mu_s, mu_n]; first | assumption | rfl)) (by rfl) ?_
          refine ev_top (i_op q3) ?_
          refine ev_if_neN 112 dX8_orders_105 (by decide) (by omega) (fun b105 => by exfalso; omega) (fun b105 => ?_)
          refine ev_iload_n (i := 3) dX8_orders_108 rfl rfl ?_
          refine ev_goto 116 dX8_orders_109 (by decide) ?_
          refine ev_putI dX8_orders_116 fwX8_179 (by first | omega | decide) (by first | assumption | (simp (disch := omega) only [mu_s, mu_n]; first | assumption | rfl)) (Nat.le_of_ble_eq_true rfl) ?_
          refine ev_aload_n (i := 0) dX8_orders_119 rfl rfl ?_
          refine ev_dup dX8_orders_120 rfl ?_
          refine ev_getfield dX8_orders_121 fX8_144 (by first | omega | decide) (by first | assumption | (simp (disch := omega) only [mu_s, mu_n]; first | assumption | rfl)) (by rfl) ?_
          refine ev_top (i_op q3) ?_
          refine ev_iconst (v := nI 1) dX8_orders_124 rfl ?_
          refine ev_iaddN dX8_orders_125 ?_
          refine ev_putI dX8_orders_126 fwX8_144 (by first | omega | decide) (by first | assumption | (simp (disch := omega) only [mu_s, mu_n]; first | assumption | rfl)) (Nat.le_of_ble_eq_true rfl) ?_
          exact kk _ (eS (eS e1 6 (nI (fgL q 0))) 3 (nI (done.countP (okS v l.1 0) + 1))) _ _ (ag_mu (ag_mu ha (by omega) (by omega)) (by omega) (by omega)) (mu_s _ _ _) (kR_ob yR (ag_mu (ag_mu (ag_rf M1 _ _) (by omega) (by omega)) (by omega) (by omega))) ((mu_n (by omega)).trans ((mu_n (by omega)).trans y87)) (congrArg nI k3.symm) (by rw [k6, hno]; rfl)
        · obtain ⟨y, hy⟩ : ∃ y, done.find? (okS v l.1 0) = some y := by
            cases hz : done.find? (okS v l.1 0) with
            | none => exact absurd (fn_c.mp hz) h0
            | some y => exact ⟨y, rfl⟩
          rw [hy] at q6
          refine ev_iload_n (i := 2) dX8_orders_54 rfl rfl ?_
          refine ev_if_eqB 137 dX8_orders_55 (by decide) (fun b55 => by cases b55) (fun b55 => ?_)
          refine ev_aload_n (i := 0) dX8_orders_58 rfl rfl ?_
          refine ev_V0 (μ1 := mX8_isOver) dX8_orders_59 sX8_182 okX8_isOver (by first | omega | decide) (by first | assumption | (simp (disch := omega) only [mu_s, mu_n]; first | assumption | rfl)) (Nat.le_of_ble_eq_true rfl) (Nat.le_of_ble_eq_true rfl) ?_
          refine c_isOver yO yR.2.2.2.2.2.2.1 o7 hl6 y87 hf H2 ?_
          refine ev_if_eqB 129 dX8_orders_62 (by decide) (fun b62 => by rw [H1, hq] at b62; cases b62) (fun b62 => ?_)
          refine ev_iconst (v := nI 0) dX8_orders_65 rfl ?_
          refine ev_istore_n (i := 3) dX8_orders_66 rfl (by decide) rfl ?_
          refine ev_iconst (v := nI 0) dX8_orders_67 rfl ?_
          refine ev_istore (i := 4) dX8_orders_68 (by decide) rfl ?_
          refine fg q M1 e1 f1 yO y87 hf ?_ l.1 0 (by omega)
          rw [H3]
          refine ev_aload_n (i := 0) dX8_orders_100 rfl rfl ?_
          refine ev_aload_n (i := 0) dX8_orders_101 rfl rfl ?_
          refine ev_getfield dX8_orders_102 fX8_144 (by first | omega | decide) (by first | assumption | (simp (disch := omega) only [mu_s, mu_n]; first | assumption | rfl)) (by rfl) ?_
          refine ev_top (i_op q3) ?_
          refine ev_if_neN 112 dX8_orders_105 (by decide) (by omega) (fun b105 => ?_) (fun b105 => by exfalso; omega)
          refine ev_aload_n (i := 0) dX8_orders_112 rfl rfl ?_
          refine ev_getfield dX8_orders_113 fX8_179 (by first | omega | decide) (by first | assumption | (simp (disch := omega) only [mu_s, mu_n]; first | assumption | rfl)) (by rfl) ?_
          refine ev_top (i_op q6) ?_
          refine ev_putI dX8_orders_116 fwX8_179 (by first | omega | decide) (by first | assumption | (simp (disch := omega) only [mu_s, mu_n]; first | assumption | rfl)) (Nat.le_of_ble_eq_true rfl) ?_
          refine ev_aload_n (i := 0) dX8_orders_119 rfl rfl ?_
          refine ev_dup dX8_orders_120 rfl ?_
          refine ev_getfield dX8_orders_121 fX8_144 (by first | omega | decide) (by first | assumption | (simp (disch := omega) only [mu_s, mu_n]; first | assumption | rfl)) (by rfl) ?_
          refine ev_top (i_op q3) ?_
          refine ev_iconst (v := nI 1) dX8_orders_124 rfl ?_
          refine ev_iaddN dX8_orders_125 ?_
          refine ev_putI dX8_orders_126 fwX8_144 (by first | omega | decide) (by first | assumption | (simp (disch := omega) only [mu_s, mu_n]; first | assumption | rfl)) (Nat.le_of_ble_eq_true rfl) ?_
          exact kk _ (eS (eS e1 6 (nI (fgL y 0))) 3 (nI (done.countP (okS v l.1 0) + 1))) _ _ (ag_mu (ag_mu ha (by omega) (by omega)) (by omega) (by omega)) (mu_s _ _ _) (kR_ob yR (ag_mu (ag_mu (ag_rf M1 _ _) (by omega) (by omega)) (by omega) (by omega))) ((mu_n (by omega)).trans ((mu_n (by omega)).trans y87)) (congrArg nI k3.symm) (by rw [k6, hy]; rfl)
    have lp : ∀ (rest : List (List Nat)) (q : List Nat) (done : List (List Nat)) (M1 : mM) (e1 f1 : Nat → Int32) (lx ly : Value), done ++ q :: rest = pmN l.1 l.1 0 → chL l.1 (q :: rest) = true → ag M0 M1 72 88 → kO M1 e1 t.1 l.1 a.length v.1 sd → kR M1 (t, l, p, a, sl, v, sd) → M1 87 = .inl (0, 6, .inl f1) → (∀ i, i < l.1 → f1 i = nI (gL q i)) → e1 3 = nI (done.countP (okS v l.1 0)) → e1 6 = oI ((done.find? (okS v l.1 0)).map (fun q => fgL q 0)) → Ev 88 7 mX8_orders none 54 [.ref 72, .int (nI w), .int (bI true), lx, ly] [] M1 P := by
      intro rest
      induction rest with
      | nil =>
        intro q done M1 e1 f1 lx ly hL hC ha yO yR y87 hf q3 q6
        refine one q done [] M1 e1 f1 lx ly hL ha yO yR y87 hf q3 q6 (fun M2 e2 lx ly hb wO wR w87 r3 r6 => ?_)
        obtain ⟨H1, H2, H3, H4⟩ := hall q (by rw [← hL]; exact List.mem_append_right _ List.mem_cons_self)
        have hC : (goF l.1 (gL q)).isNone = true := hC
        rw [hL] at r3 r6
        have z0 := wO
        unfold kO at z0
        refine ev_aload_n (i := 0) dX8_orders_129 rfl rfl ?_
        refine ev_V0 (μ1 := mX8_goOrder) dX8_orders_130 sX8_186 okX8_goOrder (by first | omega | decide) (by first | assumption | (simp (disch := omega) only [mu_s, mu_n]; first | assumption | rfl)) (Nat.le_of_ble_eq_true rfl) (Nat.le_of_ble_eq_true rfl) ?_
        refine c_goOrder wO hl6 w87 hf H2 (fun _ => ?_) (fun g1 hg1 => by rw [hg1] at hC; cases hC)
        refine ev_istore_n (i := 2) dX8_orders_133 rfl (by decide) rfl ?_
        refine ev_goto 54 dX8_orders_134 (by decide) ?_
        exact fin M2 e2 _ _ hb wO wR r3 r6
      | cons r rest ih =>
        intro q done M1 e1 f1 lx ly hL hC ha yO yR y87 hf q3 q6
        refine one q done (r :: rest) M1 e1 f1 lx ly hL ha yO yR y87 hf q3 q6 (fun M2 e2 lx ly hb wO wR w87 r3 r6 => ?_)
        obtain ⟨H1, H2, H3, H4⟩ := hall q (by rw [← hL]; exact List.mem_append_right _ List.mem_cons_self)
        have hC : (stB l.1 q r && chL l.1 (r :: rest)) = true := hC
        rw [Bool.and_eq_true] at hC
        obtain ⟨hC1, hC2⟩ := hC
        unfold stB at hC1
        have z0 := wO
        unfold kO at z0
        refine ev_aload_n (i := 0) dX8_orders_129 rfl rfl ?_
        refine ev_V0 (μ1 := mX8_goOrder) dX8_orders_130 sX8_186 okX8_goOrder (by first | omega | decide) (by first | assumption | (simp (disch := omega) only [mu_s, mu_n]; first | assumption | rfl)) (Nat.le_of_ble_eq_true rfl) (Nat.le_of_ble_eq_true rfl) ?_
        refine c_goOrder wO hl6 w87 hf H2 (fun hz => by rw [hz] at hC1; cases hC1) (fun g1 hg1 M3 f3 hb3 w3 hf3 => ?_)
        rw [hg1] at hC1
        have hC1 : allB (fun i => g1 i == gL r i) l.1 = true := hC1
        refine ev_istore_n (i := 2) dX8_orders_133 rfl (by decide) rfl ?_
        refine ev_goto 54 dX8_orders_134 (by decide) ?_
        exact ih r (done ++ [q]) M3 e2 f3 _ _ (by rw [List.append_assoc]; exact hL) hC2 (ag_tr hb hb3) (kO_ag wO hb3 (by omega)) (kR_w wR hb3 ⟨f3, w3⟩) w3 (fun i hi => by rw [hf3 i hi, eq_of_beq (allB_i.mp hC1 i hi)]) r3 r6
    obtain ⟨f0, y0⟩ := h7.2.2
    have fill : ∀ (j k : Nat) (M1 : mM) (e1 f1 : Nat → Int32), k + j = l.1 → ag M0 M1 72 88 → kO M1 e1 t.1 l.1 a.length v.1 sd → kR M1 (t, l, p, a, sl, v, sd) → M1 87 = .inl (0, 6, .inl f1) → (∀ i, i < k → f1 i = nI i) → e1 3 = nI 0 → e1 6 = (-9) → Ev 88 7 mX8_orders none 31 [.ref 72, .int (nI w), .int (nI k), .null, .null] [] M1 P := by
      intro j
      induction j with
      | zero =>
        intro k M1 e1 f1 hk ha yO yR y87 hf q3 q6
        obtain rfl : k = l.1 := by omega
        have z0 := yO
        unfold kO at z0
        cases hL : pmN l.1 l.1 0 with
        | nil => rw [hL] at C1; cases C1
        | cons q rest =>
          rw [hL] at C1 C2
          have C2 : allB (fun i => gL q i == i) l.1 = true := C2
          refine ev_iload_n (i := 2) dX8_orders_31 rfl rfl ?_
          refine ev_aload_n (i := 0) dX8_orders_32 rfl rfl ?_
          refine ev_getfield dX8_orders_33 fX8_64 (by first | omega | decide) (by first | assumption | (simp (disch := omega) only [mu_s, mu_n]; first | assumption | rfl)) (by rfl) ?_
          refine ev_icmp_geN 52 dX8_orders_36 (by decide) (by omega) (by omega) (fun b36 => ?_) (fun b36 => by exfalso; omega)
          refine ev_iconst (v := nI 1) dX8_orders_52 rfl ?_
          refine ev_istore_n (i := 2) dX8_orders_53 rfl (by decide) rfl ?_
          exact lp rest q [] M1 e1 f1 _ _ hL.symm C1 ha yO yR y87 (fun i hi => by rw [hf i hi, eq_of_beq (allB_i.mp C2 i hi)]) q3 q6
      | succ j ih =>
        intro k M1 e1 f1 hk ha yO yR y87 hf q3 q6
        have z0 := yO
        unfold kO at z0
        have eA : ag M1 (mu M1 87 (.inl (0, 6, .inl (upd f1 k (nI k))))) 87 88 := ag_mu (ag_rf M1 _ _) (by omega) (by omega)
        refine ev_iload_n (i := 2) dX8_orders_31 rfl rfl ?_
        refine ev_aload_n (i := 0) dX8_orders_32 rfl rfl ?_
        refine ev_getfield dX8_orders_33 fX8_64 (by first | omega | decide) (by first | assumption | (simp (disch := omega) only [mu_s, mu_n]; first | assumption | rfl)) (by rfl) ?_
        refine ev_icmp_geN 52 dX8_orders_36 (by decide) (by omega) (by omega) (fun b36 => by exfalso; omega) (fun b36 => ?_)
        refine ev_aload_n (i := 0) dX8_orders_39 rfl rfl ?_
        refine ev_getfield dX8_orders_40 fX8_53 (by first | omega | decide) (by first | assumption | (simp (disch := omega) only [mu_s, mu_n]; first | assumption | rfl)) (by rfl) ?_
        refine ev_iload_n (i := 2) dX8_orders_43 rfl rfl ?_
        refine ev_iload_n (i := 2) dX8_orders_44 rfl rfl ?_
        refine ev_iastoreN dX8_orders_45 (by first | omega | decide) (by first | assumption | (simp (disch := omega) only [mu_s, mu_n]; first | assumption | rfl)) (by omega) (by decide) ?_
        refine ev_incN dX8_orders_46 (by rfl) (by decide) rfl ?_
        refine ev_goto 31 dX8_orders_49 (by decide) ?_
        exact ih (k + 1) _ e1 _ (by omega) (ag_tr ha eA) (kO_ag yO eA (by omega)) (kR_w yR eA ⟨_, mu_s _ _ _⟩) (mu_s _ _ _) (fun i hi => by
          by_cases z : i = k
          · rw [z]; exact upd_a rfl
          · exact (upd_b z).trans (hf i (by omega))) q3 q6
    refine ev_iload_n (i := 1) dX8_orders_5 rfl rfl ?_
    refine ev_i2l dX8_orders_6 rfl ?_
    refine ev_lconst dX8_orders_7 rfl ?_
    refine ev_lconst dX8_orders_8 rfl ?_
    refine ev_S3 (μ1 := mX8_in) dX8_orders_9 sX8_67 okX8_in (Nat.le_of_ble_eq_true rfl) (Nat.le_of_ble_eq_true rfl) ?_
    refine c_in ?_
    refine ev_top (i_op (congrArg bI ((in_r (n := 2) rfl).trans hx))) ?_
    refine ev_if_neB 18 dX8_orders_12 (by decide) (fun b12 => ?_) (fun b12 => by cases b12)
    refine ev_aload_n (i := 0) dX8_orders_18 rfl rfl ?_
    refine ev_iconst (v := nI 0) dX8_orders_19 rfl ?_
    refine ev_putI dX8_orders_20 fwX8_144 (by first | omega | decide) (by first | assumption | (simp (disch := omega) only [mu_s, mu_n]; first | assumption | rfl)) (Nat.le_of_ble_eq_true rfl) ?_
    refine ev_aload_n (i := 0) dX8_orders_23 rfl rfl ?_
    refine ev_bipush (v := (-9)) dX8_orders_24 rfl ?_
    refine ev_putI dX8_orders_26 fwX8_179 (by first | omega | decide) (by first | assumption | (simp (disch := omega) only [mu_s, mu_n]; first | assumption | rfl)) (Nat.le_of_ble_eq_true rfl) ?_
    refine ev_iconst (v := nI 0) dX8_orders_29 rfl ?_
    refine ev_istore_n (i := 2) dX8_orders_30 rfl (by decide) rfl ?_
    exact fill l.1 0 _ (eS (eS e 3 (nI 0)) 6 (-9)) f0 (by omega) (ag_mu (ag_mu (ag_rf M0 _ _) (by omega) (by omega)) (by omega) (by omega)) (mu_s _ _ _) (kR_ob hR (ag_mu (ag_mu (ag_rf M0 _ _) (by omega) (by omega)) (by omega) (by omega))) ((mu_n (by omega)).trans ((mu_n (by omega)).trans y0)) (fun i hi => absurd hi (Nat.not_lt_zero i)) rfl rfl
  | false =>
    rw [hx, if_neg (by decide)] at hp
    refine ev_iload_n (i := 1) dX8_orders_5 rfl rfl ?_
    refine ev_i2l dX8_orders_6 rfl ?_
    refine ev_lconst dX8_orders_7 rfl ?_
    refine ev_lconst dX8_orders_8 rfl ?_
    refine ev_S3 (μ1 := mX8_in) dX8_orders_9 sX8_67 okX8_in (Nat.le_of_ble_eq_true rfl) (Nat.le_of_ble_eq_true rfl) ?_
    refine c_in ?_
    refine ev_top (i_op (congrArg bI ((in_r (n := 2) rfl).trans hx))) ?_
    refine ev_if_neB 18 dX8_orders_12 (by decide) (fun b12 => by cases b12) (fun b12 => ?_)
    refine ev_bipush (v := (-2)) dX8_orders_15 rfl ?_
    refine ev_reti dX8_orders_17 rfl rfl ?_
    exact hp M0 (ag_rf M0 _ _) h
end MEF
