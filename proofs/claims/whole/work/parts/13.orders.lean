theorem ev_und {N d : Nat} {μ : mI} {X : mX} {pc : Nat} {L S : List Value} {M : mM} {P : Option Value → mM → Prop} {t v u : Value} (h : v = u) (k : Ev N d μ X pc L (t :: u :: S) M P) : Ev N d μ X pc L (t :: v :: S) M P := h ▸ k
theorem andn_ne {k c : Nat} (h : k.testBit c = true) : andn k (2 ^ c) < k := by
  have h1 := andn_le k (2 ^ c)
  have h2 : andn k (2 ^ c) ≠ k := fun e => by
    have h3 := andn_tb k (2 ^ c) c
    rw [e, h, Nat.testBit_two_pow_self] at h3
    cases h3
  omega
theorem andn_eq {k c : Nat} (h : k.testBit c = false) : andn k (2 ^ c) = k := by
  apply Nat.eq_of_testBit_eq
  intro i
  rw [andn_tb, Nat.testBit_two_pow]
  by_cases e : c = i
  · subst e; rw [h]; rfl
  · simp [e]
theorem andn_iff {k c : Nat} : andn k (2 ^ c) = k ↔ k.testBit c = false := by
  constructor
  · intro h
    cases q : k.testBit c with
    | false => rfl
    | true => have := andn_ne q; omega
  · exact andn_eq
theorem n_min64 {n : Nat} (h : n ≤ 6) : (if nI (2 ^ n) < nI 64 then nI (2 ^ n) else nI 64) = nI (2 ^ n) := by
  have h1 : 2 ^ n ≤ 2 ^ 6 := pw_le h
  by_cases q : 2 ^ n < 64
  · rw [if_pos ((nI_ltI (by omega) (by decide)).mpr q)]
  · rw [if_neg (fun z => q ((nI_ltI (by omega) (by decide)).mp z)), show 2 ^ n = 64 by omega]
theorem wtN_lo {v : ov} {n k s : Nat} (h : s < k) : wtN v n (k + 1) s = wtN v n k s := by
  show (if s = k then _ else wtN v n k s) = _
  rw [if_neg (by omega)]
theorem wtN_at {v : ov} {n k : Nat} (h : 0 < k) : wtN v n (k + 1) k = sN (fun l => if k.testBit l = true ∧ cfB v n (andn k (2 ^ l)) l = true then wtN v n k (andn k (2 ^ l)) else 0) n := by
  show (if k = k then _ else _) = _
  rw [if_pos rfl, if_neg (by omega)]
section ORD
variable {d : Nat} {M : mM} {P : Option Value → mM → Prop} {v : ov}
theorem c_howManyOrders {n : Nat} (hV : kOv M v) (ho : ovOk v) (hn : n ≤ 6) (hp : ∀ M1, ag M M1 61 62 → (∃ w, M1 61 = .inl (0, 64, .inl w)) → P (some (.int (nI (hmN v n)))) M1) : Ev 88 (d + 2) mX2_howManyOrders none 0 [.ref 58, .int (nI n), .null, .null, .null, .null] [] M P := by
  have hp6 : 2 ^ n ≤ 2 ^ 6 := pw_le hn
  have hp0 : 0 < 2 ^ n := Nat.two_pow_pos n
  have inner : ∀ (j c k : Nat) (M1 : mM) (w1 : Nat → Int32) (l5 : Value), c + j = n → 0 < k → k < 2 ^ n → ag M M1 61 62 → M1 61 = .inl (0, 64, .inl w1) → (∀ s, s < k → w1 s = nI (wtN v n k s)) → w1 k = nI (sN (fun l => if k.testBit l = true ∧ cfB v n (andn k (2 ^ l)) l = true then wtN v n k (andn k (2 ^ l)) else 0) c) →
      (∀ (M2 : mM) (w2 : Nat → Int32) (l4 l5 : Value), ag M M2 61 62 → M2 61 = .inl (0, 64, .inl w2) → (∀ s, s < k + 1 → w2 s = nI (wtN v n (k + 1) s)) → Ev 88 (d + 2) mX2_howManyOrders none 18 [.ref 58, .int (nI n), .int (nI (2 ^ n)), .int (nI (k + 1)), l4, l5] [] M2 P) →
      Ev 88 (d + 2) mX2_howManyOrders none 33 [.ref 58, .int (nI n), .int (nI (2 ^ n)), .int (nI k), .int (nI c), l5] [] M1 P := by
    intro j
    induction j with
    | zero =>
      intro c k M1 w1 l5 hc hk0 hk ha hm e1 e2 kk
      obtain rfl : c = n := by omega
      have x0 := (ha 58 (by omega)).trans hV.1
      refine ev_iload (i := 4) dX2_howManyOrders_33 rfl ?_
      refine ev_iload_n (i := 1) dX2_howManyOrders_35 rfl rfl ?_
      refine ev_icmp_geN 89 dX2_howManyOrders_36 (by decide) (by omega) (by omega) (fun b36 => ?_) (fun b36 => by exfalso; omega)
      refine ev_incN dX2_howManyOrders_89 (by rfl) (by decide) rfl ?_
      refine ev_goto 18 dX2_howManyOrders_92 (by decide) ?_
      refine kk M1 w1 _ _ ha hm (fun s hs => ?_)
      by_cases e : s = k
      · subst e; rw [e2, wtN_at hk0]
      · rw [e1 s (by omega), wtN_lo (by omega)]
    | succ j ih =>
      intro c k M1 w1 l5 hc hk0 hk ha hm e1 e2 kk
      have x0 := (ha 58 (by omega)).trans hV.1
      have hV1 : kOv M1 v := by
        obtain ⟨q1, q2, q3, w0, q4⟩ := hV
        exact ⟨(ha _ (by omega)).trans q1, arr_ag q2 ha (by omega), arr_ag q3 ha (by omega), w1, hm⟩
      have hle := andn_le k (2 ^ c)
      have sstep : ∀ y, (if k.testBit c = true ∧ cfB v n (andn k (2 ^ c)) c = true then wtN v n k (andn k (2 ^ c)) else 0) = y → sN (fun l => if k.testBit l = true ∧ cfB v n (andn k (2 ^ l)) l = true then wtN v n k (andn k (2 ^ l)) else 0) (c + 1) = sN (fun l => if k.testBit l = true ∧ cfB v n (andn k (2 ^ l)) l = true then wtN v n k (andn k (2 ^ l)) else 0) c + y := fun y hy => by
        exact congrArg (fun z => sN (fun l => if k.testBit l = true ∧ cfB v n (andn k (2 ^ l)) l = true then wtN v n k (andn k (2 ^ l)) else 0) c + z) hy
      cases hb : k.testBit c with
      | false =>
        have he := andn_eq hb
        refine ev_iload (i := 4) dX2_howManyOrders_33 rfl ?_
        refine ev_iload_n (i := 1) dX2_howManyOrders_35 rfl rfl ?_
        refine ev_icmp_geN 89 dX2_howManyOrders_36 (by decide) (by omega) (by omega) (fun b36 => by exfalso; omega) (fun b36 => ?_)
        refine ev_iload_n (i := 3) dX2_howManyOrders_39 rfl rfl ?_
        refine ev_iconst (v := nI 1) dX2_howManyOrders_40 rfl ?_
        refine ev_iload (i := 4) dX2_howManyOrders_41 rfl ?_
        refine ev_ishl1 dX2_howManyOrders_43 (by omega) ?_
        refine ev_iconst (v := (-1)) dX2_howManyOrders_44 rfl ?_
        refine ev_ixor dX2_howManyOrders_45 ?_
        refine ev_iand dX2_howManyOrders_46 ?_
        refine ev_top (i_op (andn_nI _ _)) ?_
        refine ev_istore (i := 5) dX2_howManyOrders_47 (by decide) rfl ?_
        refine ev_iload (i := 5) dX2_howManyOrders_49 rfl ?_
        refine ev_iload_n (i := 3) dX2_howManyOrders_51 rfl rfl ?_
        refine ev_icmp_eqN 83 dX2_howManyOrders_52 (by decide) (by omega) (by omega) (fun b52 => ?_) (fun b52 => by exfalso; omega)
        refine ev_incN dX2_howManyOrders_83 (by rfl) (by decide) rfl ?_
        refine ev_goto 33 dX2_howManyOrders_86 (by decide) ?_
        exact ih _ _ _ _ _ (by omega) hk0 hk ha hm e1 (by rw [sstep 0 (by rw [if_neg (fun z => by rw [hb] at z; cases z.1)])]; exact e2) kk
      | true =>
        have he := andn_ne hb
        have ew := e1 _ he
        refine ev_iload (i := 4) dX2_howManyOrders_33 rfl ?_
        refine ev_iload_n (i := 1) dX2_howManyOrders_35 rfl rfl ?_
        refine ev_icmp_geN 89 dX2_howManyOrders_36 (by decide) (by omega) (by omega) (fun b36 => by exfalso; omega) (fun b36 => ?_)
        refine ev_iload_n (i := 3) dX2_howManyOrders_39 rfl rfl ?_
        refine ev_iconst (v := nI 1) dX2_howManyOrders_40 rfl ?_
        refine ev_iload (i := 4) dX2_howManyOrders_41 rfl ?_
        refine ev_ishl1 dX2_howManyOrders_43 (by omega) ?_
        refine ev_iconst (v := (-1)) dX2_howManyOrders_44 rfl ?_
        refine ev_ixor dX2_howManyOrders_45 ?_
        refine ev_iand dX2_howManyOrders_46 ?_
        refine ev_top (i_op (andn_nI _ _)) ?_
        refine ev_istore (i := 5) dX2_howManyOrders_47 (by decide) rfl ?_
        refine ev_iload (i := 5) dX2_howManyOrders_49 rfl ?_
        refine ev_iload_n (i := 3) dX2_howManyOrders_51 rfl rfl ?_
        refine ev_icmp_eqN 83 dX2_howManyOrders_52 (by decide) (by omega) (by omega) (fun b52 => by exfalso; omega) (fun b52 => ?_)
        refine ev_aload_n (i := 0) dX2_howManyOrders_55 rfl rfl ?_
        refine ev_iload (i := 4) dX2_howManyOrders_56 rfl ?_
        refine ev_iload (i := 5) dX2_howManyOrders_58 rfl ?_
        refine ev_iload_n (i := 1) dX2_howManyOrders_60 rfl rfl ?_
        refine ev_V3 (μ1 := mX2_canFollow) dX2_howManyOrders_61 sX2_34 okX2_canFollow (by first | omega | decide) (by first | assumption | (simp (disch := omega) only [mu_s, mu_n]; first | assumption | rfl)) (Nat.le_of_ble_eq_true rfl) (Nat.le_of_ble_eq_true rfl) ?_
        refine c_canFollow hV1 ho (by omega) (by omega) (by omega) ?_
        refine ev_if_eqB 83 dX2_howManyOrders_64 (by decide) (fun b64 => ?_) (fun b64 => ?_)
        · skip
          refine ev_incN dX2_howManyOrders_83 (by rfl) (by decide) rfl ?_
          refine ev_goto 33 dX2_howManyOrders_86 (by decide) ?_
          first
          | (have q : cfB v n (andn k (2 ^ c)) c = false := b64
             exact ih _ _ _ _ _ (by omega) hk0 hk ha hm e1 (by rw [sstep 0 (by rw [if_neg (fun z => by rw [q] at z; cases z.2)])]; exact e2) kk)
          | (have q : cfB v n (andn k (2 ^ c)) c = true := b64
             refine ih _ _ _ _ _ (by omega) hk0 hk (ag_mu ha (by omega) (by omega)) (mu_s _ _ _) (fun s hs => ?_) ?_ kk
             · show (if s = k then _ else w1 s) = _
               rw [if_neg (by omega)]; exact e1 s hs
             · show (if k = k then _ else w1 k) = _
               rw [if_pos rfl, sstep _ (if_pos ⟨hb, q⟩)])
        · skip
          refine ev_aload_n (i := 0) dX2_howManyOrders_67 rfl rfl ?_
          refine ev_getfield dX2_howManyOrders_68 fX2_18 (by first | omega | decide) (by first | assumption | (simp (disch := omega) only [mu_s, mu_n]; first | assumption | rfl)) (by rfl) ?_
          refine ev_iload_n (i := 3) dX2_howManyOrders_71 rfl rfl ?_
          refine ev_dup2 dX2_howManyOrders_72 rfl rfl ?_
          refine ev_ialoadN dX2_howManyOrders_73 (by first | omega | decide) (by first | assumption | (simp (disch := omega) only [mu_s, mu_n]; first | assumption | rfl)) (by omega) (by decide) ?_
          refine ev_aload_n (i := 0) dX2_howManyOrders_74 rfl rfl ?_
          refine ev_getfield dX2_howManyOrders_75 fX2_18 (by first | omega | decide) (by first | assumption | (simp (disch := omega) only [mu_s, mu_n]; first | assumption | rfl)) (by rfl) ?_
          refine ev_iload (i := 5) dX2_howManyOrders_78 rfl ?_
          refine ev_ialoadN dX2_howManyOrders_80 (by first | omega | decide) (by first | assumption | (simp (disch := omega) only [mu_s, mu_n]; first | assumption | rfl)) (by omega) (by decide) ?_
          refine ev_top (i_op ew) ?_
          refine ev_und (i_op e2) ?_
          refine ev_iaddN dX2_howManyOrders_81 ?_
          refine ev_iastoreN dX2_howManyOrders_82 (by first | omega | decide) (by first | assumption | (simp (disch := omega) only [mu_s, mu_n]; first | assumption | rfl)) (by omega) (by decide) ?_
          refine ev_incN dX2_howManyOrders_83 (by rfl) (by decide) rfl ?_
          refine ev_goto 33 dX2_howManyOrders_86 (by decide) ?_
          first
          | (have q : cfB v n (andn k (2 ^ c)) c = false := b64
             exact ih _ _ _ _ _ (by omega) hk0 hk ha hm e1 (by rw [sstep 0 (by rw [if_neg (fun z => by rw [q] at z; cases z.2)])]; exact e2) kk)
          | (have q : cfB v n (andn k (2 ^ c)) c = true := b64
             refine ih _ _ _ _ _ (by omega) hk0 hk (ag_mu ha (by omega) (by omega)) (mu_s _ _ _) (fun s hs => ?_) ?_ kk
             · show (if s = k then _ else w1 s) = _
               rw [if_neg (by omega)]; exact e1 s hs
             · show (if k = k then _ else w1 k) = _
               rw [if_pos rfl, sstep _ (if_pos ⟨hb, q⟩)])
  have outer : ∀ (j k : Nat) (M1 : mM) (w1 : Nat → Int32) (l4 l5 : Value), k + j = 2 ^ n → 0 < k → ag M M1 61 62 → M1 61 = .inl (0, 64, .inl w1) → (∀ s, s < k → w1 s = nI (wtN v n k s)) → Ev 88 (d + 2) mX2_howManyOrders none 18 [.ref 58, .int (nI n), .int (nI (2 ^ n)), .int (nI k), l4, l5] [] M1 P := by
    intro j
    induction j with
    | zero =>
      intro k M1 w1 l4 l5 hc hk0 ha hm e1
      obtain rfl : k = 2 ^ n := by omega
      have x0 := (ha 58 (by omega)).trans hV.1
      have hr := e1 (2 ^ n - 1) (by omega)
      refine ev_iload_n (i := 3) dX2_howManyOrders_18 rfl rfl ?_
      refine ev_iload_n (i := 2) dX2_howManyOrders_19 rfl rfl ?_
      refine ev_icmp_geN 95 dX2_howManyOrders_20 (by decide) (by omega) (by omega) (fun b20 => ?_) (fun b20 => by exfalso; omega)
      refine ev_iload_n (i := 2) dX2_howManyOrders_95 rfl rfl ?_
      refine ev_if_leN 110 dX2_howManyOrders_96 (by decide) (by omega) (fun b96 => by exfalso; omega) (fun b96 => ?_)
      refine ev_aload_n (i := 0) dX2_howManyOrders_99 rfl rfl ?_
      refine ev_getfield dX2_howManyOrders_100 fX2_18 (by first | omega | decide) (by first | assumption | (simp (disch := omega) only [mu_s, mu_n]; first | assumption | rfl)) (by rfl) ?_
      refine ev_iload_n (i := 2) dX2_howManyOrders_103 rfl rfl ?_
      refine ev_iconst (v := nI 1) dX2_howManyOrders_104 rfl ?_
      refine ev_isubN dX2_howManyOrders_105 (by omega) ?_
      refine ev_ialoadN dX2_howManyOrders_106 (by first | omega | decide) (by first | assumption | (simp (disch := omega) only [mu_s, mu_n]; first | assumption | rfl)) (by omega) (by decide) ?_
      refine ev_goto 111 dX2_howManyOrders_107 (by decide) ?_
      refine ev_reti dX2_howManyOrders_111 rfl rfl ?_
      exact e_retv hr (hp M1 ha ⟨w1, hm⟩)
    | succ j ih =>
      intro k M1 w1 l4 l5 hc hk0 ha hm e1
      have x0 := (ha 58 (by omega)).trans hV.1
      refine ev_iload_n (i := 3) dX2_howManyOrders_18 rfl rfl ?_
      refine ev_iload_n (i := 2) dX2_howManyOrders_19 rfl rfl ?_
      refine ev_icmp_geN 95 dX2_howManyOrders_20 (by decide) (by omega) (by omega) (fun b20 => by exfalso; omega) (fun b20 => ?_)
      refine ev_aload_n (i := 0) dX2_howManyOrders_23 rfl rfl ?_
      refine ev_getfield dX2_howManyOrders_24 fX2_18 (by first | omega | decide) (by first | assumption | (simp (disch := omega) only [mu_s, mu_n]; first | assumption | rfl)) (by rfl) ?_
      refine ev_iload_n (i := 3) dX2_howManyOrders_27 rfl rfl ?_
      refine ev_iconst (v := nI 0) dX2_howManyOrders_28 rfl ?_
      refine ev_iastoreN dX2_howManyOrders_29 (by first | omega | decide) (by first | assumption | (simp (disch := omega) only [mu_s, mu_n]; first | assumption | rfl)) (by omega) (by decide) ?_
      refine ev_iconst (v := nI 0) dX2_howManyOrders_30 rfl ?_
      refine ev_istore (i := 4) dX2_howManyOrders_31 (by decide) rfl ?_
      refine inner n 0 k _ _ _ (by omega) hk0 (by omega) (ag_mu ha (by omega) (by omega)) (mu_s _ _ _) (fun s hs => ?_) ?_ (fun M2 w2 l4 l5 ha2 hm2 e3 => ih (k + 1) M2 w2 l4 l5 (by omega) (by omega) ha2 hm2 e3)
      · show (if s = k then _ else w1 s) = _
        rw [if_neg (by omega)]; exact e1 s hs
      · show (if k = k then _ else w1 k) = _
        rw [if_pos rfl]; rfl
  obtain ⟨h1, -, -, w, h7⟩ := id hV
  refine ev_bipush (v := nI 64) dX2_howManyOrders_0 rfl ?_
  refine ev_iconst (v := nI 1) dX2_howManyOrders_2 rfl ?_
  refine ev_iload_n (i := 1) dX2_howManyOrders_3 rfl rfl ?_
  refine ev_ishl1 dX2_howManyOrders_4 (by omega) ?_
  refine ev_min dX2_howManyOrders_5 sX2_29 (by omega) (Nat.le_of_ble_eq_true rfl) ?_
  refine ev_top (i_op (n_min64 hn)) ?_
  refine ev_istore_n (i := 2) dX2_howManyOrders_8 rfl (by decide) rfl ?_
  refine ev_aload_n (i := 0) dX2_howManyOrders_9 rfl rfl ?_
  refine ev_getfield dX2_howManyOrders_10 fX2_18 (by first | omega | decide) (by first | assumption | (simp (disch := omega) only [mu_s, mu_n]; first | assumption | rfl)) (by rfl) ?_
  refine ev_iconst (v := nI 0) dX2_howManyOrders_13 rfl ?_
  refine ev_iconst (v := nI 1) dX2_howManyOrders_14 rfl ?_
  refine ev_iastoreN dX2_howManyOrders_15 (by first | omega | decide) (by first | assumption | (simp (disch := omega) only [mu_s, mu_n]; first | assumption | rfl)) (by omega) (by decide) ?_
  refine ev_iconst (v := nI 1) dX2_howManyOrders_16 rfl ?_
  refine ev_istore_n (i := 3) dX2_howManyOrders_17 rfl (by decide) rfl ?_
  refine outer (2 ^ n - 1) 1 _ _ _ _ (by omega) (by decide) (ag_mu (ag_rf M _ _) (by omega) (by omega)) (mu_s _ _ _) (fun s hs => ?_)
  obtain rfl : s = 0 := by omega
  rfl
end ORD
