/-! ===== acts, slots, times ===== -/
def kAc (M : mM) (a : List pg) : Prop := ∃ (fi : Nat) (g : Nat → Option Nat), M 14 = .inr (0, [.ref 15, .int (nI fi), .int (nI a.length)]) ∧ M 15 = .inl (2, 14, .inr g) ∧ (∀ i, i < 14 → g i = some (16 + 3 * i)) ∧ fi < 14 ∧ a.length ≤ 14 ∧ (∀ i p, a[i]? = some p → kP M (16 + 3 * ((fi + i) % 14)) p) ∧ ∀ i, i < 14 → ∃ f h dy, kS M (16 + 3 * i) f h dy
def actsAdd (a : List pg) (p : pg) : List pg := if a.length < 14 then a ++ [p] else a.drop 1 ++ [p]
theorem kAc_ag {M M1 : mM} {a b : Nat} {x : List pg} (h : kAc M x) (hg : ag M M1 a b) (hx : b ≤ 14 ∨ 58 ≤ a) : kAc M1 x := by
  obtain ⟨fi, g, h1, h2, h3, h4, h5, h6, h7⟩ := h
  refine ⟨fi, g, (hg _ (by omega)).trans h1, (hg _ (by omega)).trans h2, h3, h4, h5, fun i p hi => kP_ag (h6 i p hi) hg (by omega), fun i hi => ?_⟩
  obtain ⟨f, h, dy, q⟩ := h7 i hi
  exact ⟨f, h, dy, kS_ag q hg (by omega)⟩
theorem kP_kS {M : mM} {k : Nat} {p : pg} (h : kP M k p) : ∃ f g dy, kS M k f g dy := by
  obtain ⟨f, g, h1, -⟩ := h
  exact ⟨f, g, _, h1⟩
theorem e_ret1 {M : mM} {P : Option Value → mM → Prop} (hp : P (some (.int (bI true))) M) : P (some (.int (nI 1))) M := hp
theorem e_ret0 {M : mM} {P : Option Value → mM → Prop} (hp : P (some (.int (bI false))) M) : P (some (.int (nI 0))) M := hp
section ACT
variable {d : Nat} {M : mM} {P : Option Value → mM → Prop}
theorem q_aForget {a : List pg} (hA : kAc M a) (hp : ∀ M1, ag M M1 14 15 → kAc M1 [] → P none M1) : Ev 88 d mX0_forget none 0 [.ref 14] [] M P := by
  obtain ⟨fi, g, h1, h2, h3, h4, h5, h6, h7⟩ := hA
  refine ev_aload_n (i := 0) dX0_forget_0 rfl rfl ?_
  refine ev_iconst (v := nI 0) dX0_forget_1 rfl ?_
  refine ev_putI dX0_forget_2 fwX0_18 (by first | omega | decide) (by first | assumption | (simp (disch := omega) only [mu_s, mu_n]; first | assumption | rfl)) (Nat.le_of_ble_eq_true rfl) ?_
  refine ev_aload_n (i := 0) dX0_forget_5 rfl rfl ?_
  refine ev_iconst (v := nI 0) dX0_forget_6 rfl ?_
  refine ev_putI dX0_forget_7 fwX0_22 (by first | omega | decide) (by first | assumption | (simp (disch := omega) only [mu_s, mu_n]; first | assumption | rfl)) (Nat.le_of_ble_eq_true rfl) ?_
  refine ev_ret0 dX0_forget_10 rfl ?_
  refine hp _ (ag_mu (ag_mu (ag_rf M _ _) (by omega) (by omega)) (by omega) (by omega)) ⟨0, g, mu_s _ _ _, (mu_n (by omega)).trans ((mu_n (by omega)).trans h2), h3, by omega, by simp, fun i p hi => by simp at hi, fun i hi => ?_⟩
  obtain ⟨f, h, dy, q⟩ := h7 i hi
  exact ⟨f, h, dy, kS_ag q (ag_mu (ag_mu (ag_rf M 14 15) (by omega) (by omega)) (by omega) (by omega)) (by omega)⟩
theorem c_sheetAt {fi n i : Nat} {g : Nat → Option Nat} (h1 : M 14 = .inr (0, [.ref 15, .int (nI fi), .int (nI n)])) (h2 : M 15 = .inl (2, 14, .inr g)) (h3 : ∀ i, i < 14 → g i = some (16 + 3 * i)) (h4 : fi < 14) (hi : i ≤ 14) (hp : P (some (.ref (16 + 3 * ((fi + i) % 14)))) M) : Ev 88 d mX0_sheetAt none 0 [.ref 14, .int (nI i), .null] [] M P := by
  have h14 : (fi + i) % 14 < 14 := Nat.mod_lt _ (by decide)
  refine ev_aload_n (i := 0) dX0_sheetAt_0 rfl rfl ?_
  refine ev_getfield dX0_sheetAt_1 fX0_18 (by first | omega | decide) (by first | assumption | (simp (disch := omega) only [mu_s, mu_n]; first | assumption | rfl)) (by rfl) ?_
  refine ev_iload_n (i := 1) dX0_sheetAt_4 rfl rfl ?_
  refine ev_iaddN dX0_sheetAt_5 ?_
  refine ev_bipush (v := nI 14) dX0_sheetAt_6 rfl ?_
  refine ev_iremN dX0_sheetAt_8 (by omega) (by omega) (by omega) ?_
  refine ev_istore_n (i := 2) dX0_sheetAt_9 rfl (by decide) rfl ?_
  refine ev_iload_n (i := 2) dX0_sheetAt_10 rfl rfl ?_
  refine ev_if_ltN 29 dX0_sheetAt_11 (by decide) (by omega) (fun b11 => by exfalso; omega) (fun b11 => ?_)
  refine ev_iload_n (i := 2) dX0_sheetAt_14 rfl rfl ?_
  refine ev_bipush (v := nI 14) dX0_sheetAt_15 rfl ?_
  refine ev_icmp_geN 29 dX0_sheetAt_17 (by decide) (by omega) (by omega) (fun b17 => by exfalso; omega) (fun b17 => ?_)
  refine ev_aload_n (i := 0) dX0_sheetAt_20 rfl rfl ?_
  refine ev_getfield dX0_sheetAt_21 fX0_11 (by first | omega | decide) (by first | assumption | (simp (disch := omega) only [mu_s, mu_n]; first | assumption | rfl)) (by rfl) ?_
  refine ev_iload_n (i := 2) dX0_sheetAt_24 rfl rfl ?_
  refine ev_aaload (r := 16 + 3 * ((fi + i) % 14)) dX0_sheetAt_25 (by first | omega | decide) (by first | assumption | (simp (disch := omega) only [mu_s, mu_n]; first | assumption | rfl)) (vp_in_nI (by omega) (by decide)) (by rw [n_cl (by omega)]; exact h3 _ h14) ?_
  refine ev_goto 30 dX0_sheetAt_26 (by decide) ?_
  refine ev_reta dX0_sheetAt_30 rfl ?_
  exact hp
theorem q_remember {a : List pg} {p : pg} (hA : kAc M a) (hs : kP M 8 p) (hp : ∀ M1, ag M M1 14 58 → kAc M1 (actsAdd a p) → P none M1) : Ev 88 (d + 1) mX0_remember none 0 [.ref 14, .ref 8] [] M P := by
  obtain ⟨fi, g, h1, h2, h3, h4, h5, h6, h7⟩ := hA
  obtain ⟨f0, g0, d0, hs0⟩ := h7 ((fi + a.length) % 14) (Nat.mod_lt _ (by decide))
  have h14 : (fi + a.length) % 14 < 14 := Nat.mod_lt _ (by decide)
  have key : ∀ M1, ag M M1 (16 + 3 * ((fi + a.length) % 14)) (16 + 3 * ((fi + a.length) % 14) + 3) → kP M1 (16 + 3 * ((fi + a.length) % 14)) p → ∀ i, i < 14 → ∃ f h dy, kS M1 (16 + 3 * i) f h dy := fun M1 ha hk i hi => by
    by_cases e : i = (fi + a.length) % 14
    · rw [e]; exact kP_kS hk
    · obtain ⟨f, h, dy, q⟩ := h7 i hi
      exact ⟨f, h, dy, kS_ag q ha (by omega)⟩
  refine ev_aload_n (i := 1) dX0_remember_0 rfl rfl ?_
  refine ev_aload_n (i := 0) dX0_remember_1 rfl rfl ?_
  refine ev_aload_n (i := 0) dX0_remember_2 rfl rfl ?_
  refine ev_getfield dX0_remember_3 fX0_22 (by first | omega | decide) (by first | assumption | (simp (disch := omega) only [mu_s, mu_n]; first | assumption | rfl)) (by rfl) ?_
  refine ev_V1 (μ1 := mX0_sheetAt) dX0_remember_6 sX0_25 okX0_sheetAt (by first | omega | decide) (by first | assumption | (simp (disch := omega) only [mu_s, mu_n]; first | assumption | rfl)) (Nat.le_of_ble_eq_true rfl) (Nat.le_of_ble_eq_true rfl) ?_
  refine c_sheetAt h1 h2 h3 h4 h5 ?_
  refine ev_S2 (μ1 := mX7_copy) dX0_remember_9 sX0_29 okX7_copy (Nat.le_of_ble_eq_true rfl) (Nat.le_of_ble_eq_true rfl) ?_
  refine q_copy (by omega) (by omega) (by omega) hs hs0 (fun M1 ha hk1 => ?_)
  have x1 : M1 14 = .inr (0, [.ref 15, .int (nI fi), .int (nI a.length)]) := (ha _ (by omega)).trans h1
  have x2 : M1 15 = .inl (2, 14, .inr g) := (ha _ (by omega)).trans h2
  refine ev_aload_n (i := 0) dX0_remember_12 rfl rfl ?_
  refine ev_getfield dX0_remember_13 fX0_22 (by first | omega | decide) (by first | assumption | (simp (disch := omega) only [mu_s, mu_n]; first | assumption | rfl)) (by rfl) ?_
  refine ev_bipush (v := nI 14) dX0_remember_16 rfl ?_
  refine ev_icmp_geN 34 dX0_remember_18 (by decide) (by omega) (by omega) (fun b18 => ?_) (fun b18 => ?_)
  · skip
    refine ev_aload_n (i := 0) dX0_remember_34 rfl rfl ?_
    refine ev_aload_n (i := 0) dX0_remember_35 rfl rfl ?_
    refine ev_getfield dX0_remember_36 fX0_18 (by first | omega | decide) (by first | assumption | (simp (disch := omega) only [mu_s, mu_n]; first | assumption | rfl)) (by rfl) ?_
    refine ev_iconst (v := nI 1) dX0_remember_39 rfl ?_
    refine ev_iaddN dX0_remember_40 ?_
    refine ev_bipush (v := nI 14) dX0_remember_41 rfl ?_
    refine ev_iremN dX0_remember_43 (by omega) (by omega) (by omega) ?_
    refine ev_putI dX0_remember_44 fwX0_18 (by first | omega | decide) (by first | assumption | (simp (disch := omega) only [mu_s, mu_n]; first | assumption | rfl)) (Nat.le_of_ble_eq_true rfl) ?_
    refine ev_ret0 dX0_remember_47 rfl ?_
    first
    | (have hl : a.length < 14 := b18
       refine hp _ (ag_mu (ag_wd ha) (by omega) (by omega)) ⟨fi, g, ?_, (mu_n (by omega)).trans x2, h3, h4, ?_, fun i p1 hi => ?_, fun i hi => ?_⟩
       · rw [actsAdd, if_pos hl, List.length_append]; exact mu_s _ _ _
       · rw [actsAdd, if_pos hl, List.length_append]; simp only [List.length_cons, List.length_nil]; omega
       · rw [actsAdd, if_pos hl] at hi
         by_cases e : i < a.length
         · rw [List.getElem?_append_left e] at hi
           have e2 : (fi + i) % 14 ≠ (fi + a.length) % 14 := by omega
           have e3 : (fi + i) % 14 < 14 := Nat.mod_lt _ (by decide)
           exact kP_ag (kP_ag (h6 i p1 hi) ha (by omega)) (ag_mu (ag_rf M1 14 15) (by omega) (by omega)) (by omega)
         · rw [List.getElem?_append_right (by omega)] at hi
           have e2 : i = a.length := by
             have e4 := (List.getElem?_eq_some_iff.mp hi).1
             simp only [List.length_cons, List.length_nil] at e4
             omega
           subst e2
           rw [Nat.sub_self] at hi
           cases hi
           exact kP_ag hk1 (ag_mu (ag_rf M1 14 15) (by omega) (by omega)) (by omega)
       · obtain ⟨f, h, dy, q⟩ := key M1 ha hk1 i hi
         exact ⟨f, h, dy, kS_ag q (ag_mu (ag_rf M1 14 15) (by omega) (by omega)) (by omega)⟩)
    | (have hl : ¬ a.length < 14 := by omega
       have hl2 : a.length = 14 := by omega
       refine hp _ (ag_mu (ag_wd ha) (by omega) (by omega)) ⟨(fi + 1) % 14, g, ?_, (mu_n (by omega)).trans x2, h3, Nat.mod_lt _ (by decide), ?_, fun i p1 hi => ?_, fun i hi => ?_⟩
       · have hL : (actsAdd a p).length = a.length := by rw [actsAdd, if_neg hl, List.length_append, List.length_drop]; simp only [List.length_cons, List.length_nil]; omega
         rw [hL]; exact mu_s _ _ _
       · rw [actsAdd, if_neg hl, List.length_append, List.length_drop]; simp only [List.length_cons, List.length_nil]; omega
       · rw [actsAdd, if_neg hl] at hi
         have e9 : (a.drop 1).length = 13 := by rw [List.length_drop]; omega
         by_cases e : i < 13
         · rw [List.getElem?_append_left (by omega), List.getElem?_drop] at hi
           have e2 : ((fi + 1) % 14 + i) % 14 = (fi + (1 + i)) % 14 := by omega
           have e3 : (fi + (1 + i)) % 14 < 14 := Nat.mod_lt _ (by decide)
           have e4 : (fi + (1 + i)) % 14 ≠ (fi + a.length) % 14 := by omega
           rw [e2]
           exact kP_ag (kP_ag (h6 _ p1 hi) ha (by omega)) (ag_mu (ag_rf M1 14 15) (by omega) (by omega)) (by omega)
         · rw [List.getElem?_append_right (by omega), e9] at hi
           have e2 : i = 13 := by
             have e4 := (List.getElem?_eq_some_iff.mp hi).1
             simp only [List.length_cons, List.length_nil] at e4
             omega
           subst e2
           rw [Nat.sub_self] at hi
           cases hi
           have e5 : ((fi + 1) % 14 + 13) % 14 = (fi + a.length) % 14 := by omega
           rw [e5]
           exact kP_ag hk1 (ag_mu (ag_rf M1 14 15) (by omega) (by omega)) (by omega)
       · obtain ⟨f, h, dy, q⟩ := key M1 ha hk1 i hi
         exact ⟨f, h, dy, kS_ag q (ag_mu (ag_rf M1 14 15) (by omega) (by omega)) (by omega)⟩)
  · skip
    refine ev_aload_n (i := 0) dX0_remember_21 rfl rfl ?_
    refine ev_dup dX0_remember_22 rfl ?_
    refine ev_getfield dX0_remember_23 fX0_22 (by first | omega | decide) (by first | assumption | (simp (disch := omega) only [mu_s, mu_n]; first | assumption | rfl)) (by rfl) ?_
    refine ev_iconst (v := nI 1) dX0_remember_26 rfl ?_
    refine ev_iaddN dX0_remember_27 ?_
    refine ev_putI dX0_remember_28 fwX0_22 (by first | omega | decide) (by first | assumption | (simp (disch := omega) only [mu_s, mu_n]; first | assumption | rfl)) (Nat.le_of_ble_eq_true rfl) ?_
    refine ev_goto 47 dX0_remember_31 (by decide) ?_
    refine ev_ret0 dX0_remember_47 rfl ?_
    first
    | (have hl : a.length < 14 := b18
       refine hp _ (ag_mu (ag_wd ha) (by omega) (by omega)) ⟨fi, g, ?_, (mu_n (by omega)).trans x2, h3, h4, ?_, fun i p1 hi => ?_, fun i hi => ?_⟩
       · rw [actsAdd, if_pos hl, List.length_append]; exact mu_s _ _ _
       · rw [actsAdd, if_pos hl, List.length_append]; simp only [List.length_cons, List.length_nil]; omega
       · rw [actsAdd, if_pos hl] at hi
         by_cases e : i < a.length
         · rw [List.getElem?_append_left e] at hi
           have e2 : (fi + i) % 14 ≠ (fi + a.length) % 14 := by omega
           have e3 : (fi + i) % 14 < 14 := Nat.mod_lt _ (by decide)
           exact kP_ag (kP_ag (h6 i p1 hi) ha (by omega)) (ag_mu (ag_rf M1 14 15) (by omega) (by omega)) (by omega)
         · rw [List.getElem?_append_right (by omega)] at hi
           have e2 : i = a.length := by
             have e4 := (List.getElem?_eq_some_iff.mp hi).1
             simp only [List.length_cons, List.length_nil] at e4
             omega
           subst e2
           rw [Nat.sub_self] at hi
           cases hi
           exact kP_ag hk1 (ag_mu (ag_rf M1 14 15) (by omega) (by omega)) (by omega)
       · obtain ⟨f, h, dy, q⟩ := key M1 ha hk1 i hi
         exact ⟨f, h, dy, kS_ag q (ag_mu (ag_rf M1 14 15) (by omega) (by omega)) (by omega)⟩)
    | (have hl : ¬ a.length < 14 := by omega
       have hl2 : a.length = 14 := by omega
       refine hp _ (ag_mu (ag_wd ha) (by omega) (by omega)) ⟨(fi + 1) % 14, g, ?_, (mu_n (by omega)).trans x2, h3, Nat.mod_lt _ (by decide), ?_, fun i p1 hi => ?_, fun i hi => ?_⟩
       · have hL : (actsAdd a p).length = a.length := by rw [actsAdd, if_neg hl, List.length_append, List.length_drop]; simp only [List.length_cons, List.length_nil]; omega
         rw [hL]; exact mu_s _ _ _
       · rw [actsAdd, if_neg hl, List.length_append, List.length_drop]; simp only [List.length_cons, List.length_nil]; omega
       · rw [actsAdd, if_neg hl] at hi
         have e9 : (a.drop 1).length = 13 := by rw [List.length_drop]; omega
         by_cases e : i < 13
         · rw [List.getElem?_append_left (by omega), List.getElem?_drop] at hi
           have e2 : ((fi + 1) % 14 + i) % 14 = (fi + (1 + i)) % 14 := by omega
           have e3 : (fi + (1 + i)) % 14 < 14 := Nat.mod_lt _ (by decide)
           have e4 : (fi + (1 + i)) % 14 ≠ (fi + a.length) % 14 := by omega
           rw [e2]
           exact kP_ag (kP_ag (h6 _ p1 hi) ha (by omega)) (ag_mu (ag_rf M1 14 15) (by omega) (by omega)) (by omega)
         · rw [List.getElem?_append_right (by omega), e9] at hi
           have e2 : i = 13 := by
             have e4 := (List.getElem?_eq_some_iff.mp hi).1
             simp only [List.length_cons, List.length_nil] at e4
             omega
           subst e2
           rw [Nat.sub_self] at hi
           cases hi
           have e5 : ((fi + 1) % 14 + 13) % 14 = (fi + a.length) % 14 := by omega
           rw [e5]
           exact kP_ag hk1 (ag_mu (ag_rf M1 14 15) (by omega) (by omega)) (by omega)
       · obtain ⟨f, h, dy, q⟩ := key M1 ha hk1 i hi
         exact ⟨f, h, dy, kS_ag q (ag_mu (ag_rf M1 14 15) (by omega) (by omega)) (by omega)⟩)
theorem q_takeBack0 (hA : kAc M []) (hp : P (some (.int (bI false))) M) : Ev 88 (d + 1) mX0_takeBack none 0 [.ref 14, .ref 8] [] M P := by
  obtain ⟨fi, g, h1, -⟩ := hA
  refine ev_aload_n (i := 0) dX0_takeBack_0 rfl rfl ?_
  refine ev_getfield dX0_takeBack_1 fX0_22 (by first | omega | decide) (by first | assumption | (simp (disch := omega) only [mu_s, mu_n]; first | assumption | rfl)) (by rfl) ?_
  refine ev_if_gtN 9 dX0_takeBack_4 (by decide) (by decide) (fun b4 => by exact absurd b4 (by decide)) (fun b4 => ?_)
  refine ev_iconst (v := nI 0) dX0_takeBack_7 rfl ?_
  refine ev_reti dX0_takeBack_8 rfl rfl ?_
  exact e_retF (rfl) hp
theorem q_takeBack1 {a : List pg} {p : pg} {f0 g0 : Nat → Int32} {d0 : Int32} (hA : kAc M (a ++ [p])) (hs : kS M 8 f0 g0 d0) (hp : ∀ M1 M2, ag M M1 14 58 → ag M1 M2 8 11 → kP M2 8 p → kAc M2 a → P (some (.int (bI true))) M2) : Ev 88 (d + 1) mX0_takeBack none 0 [.ref 14, .ref 8] [] M P := by
  obtain ⟨fi, g, h1, h2, h3, h4, h5, h6, h7⟩ := hA
  rw [List.length_append] at h1 h5
  simp only [List.length_cons, List.length_nil] at h1 h5
  have hpl := h6 a.length p (by simp)
  have h14 : (fi + a.length) % 14 < 14 := Nat.mod_lt _ (by decide)
  refine ev_aload_n (i := 0) dX0_takeBack_0 rfl rfl ?_
  refine ev_getfield dX0_takeBack_1 fX0_22 (by first | omega | decide) (by first | assumption | (simp (disch := omega) only [mu_s, mu_n]; first | assumption | rfl)) (by rfl) ?_
  refine ev_if_gtN 9 dX0_takeBack_4 (by decide) (by omega) (fun b4 => ?_) (fun b4 => by exfalso; omega)
  refine ev_aload_n (i := 0) dX0_takeBack_9 rfl rfl ?_
  refine ev_dup dX0_takeBack_10 rfl ?_
  refine ev_getfield dX0_takeBack_11 fX0_22 (by first | omega | decide) (by first | assumption | (simp (disch := omega) only [mu_s, mu_n]; first | assumption | rfl)) (by rfl) ?_
  refine ev_iconst (v := nI 1) dX0_takeBack_14 rfl ?_
  refine ev_isubN dX0_takeBack_15 (by omega) ?_
  refine ev_putI dX0_takeBack_16 fwX0_22 (by first | omega | decide) (by assumption) (Nat.le_of_ble_eq_true rfl) ?_
  refine ev_aload_n (i := 0) dX0_takeBack_19 rfl rfl ?_
  refine ev_aload_n (i := 0) dX0_takeBack_20 rfl rfl ?_
  refine ev_getfield dX0_takeBack_21 fX0_22 (by first | omega | decide) (by first | assumption | (simp (disch := omega) only [mu_s, mu_n]; first | assumption | rfl)) (by rfl) ?_
  refine ev_V1 (μ1 := mX0_sheetAt) dX0_takeBack_24 sX0_25 okX0_sheetAt (by first | omega | decide) (by first | assumption | (simp (disch := omega) only [mu_s, mu_n]; first | assumption | rfl)) (Nat.le_of_ble_eq_true rfl) (Nat.le_of_ble_eq_true rfl) ?_
  refine c_sheetAt (n := a.length) (fi := fi) (g := g) ((mu_s _ _ _).trans (by simp)) ((mu_n (by omega)).trans h2) h3 h4 (by omega) ?_
  refine ev_aload_n (i := 1) dX0_takeBack_27 rfl rfl ?_
  refine ev_S2 (μ1 := mX7_copy) dX0_takeBack_28 sX0_29 okX7_copy (Nat.le_of_ble_eq_true rfl) (Nat.le_of_ble_eq_true rfl) ?_
  refine q_copy (by omega) (by omega) (by omega) (kP_ag hpl (ag_mu (ag_rf M 14 15) (by omega) (by omega)) (by omega)) (kS_ag hs (ag_mu (ag_rf M 14 15) (by omega) (by omega)) (by omega)) (fun M1 ha hk1 => ?_)
  refine ev_iconst (v := nI 1) dX0_takeBack_31 rfl ?_
  refine ev_reti dX0_takeBack_32 rfl (rfl) ?_
  refine hp _ M1 (ag_wd (ag_mu (ag_rf M 14 15) (by omega) (by omega))) (ag_wd ha) hk1 ⟨fi, g, (ha _ (by omega)).trans ((mu_s _ _ _).trans (by simp)), (ha _ (by omega)).trans ((mu_n (by omega)).trans h2), h3, h4, by omega, fun i p1 hi => ?_, fun i hi => ?_⟩
  · have e4 := (List.getElem?_eq_some_iff.mp hi).1
    have hi2 : (a ++ [p])[i]? = some p1 := by rw [List.getElem?_append_left e4]; exact hi
    exact kP_ag (kP_ag (h6 i p1 hi2) (ag_mu (ag_rf M 14 15) (by omega) (by omega)) (by omega)) ha (by omega)
  · obtain ⟨f, h, dy, q⟩ := h7 i hi
    exact ⟨f, h, dy, kS_ag (kS_ag q (ag_mu (ag_rf M 14 15) (by omega) (by omega)) (by omega)) ha (by omega)⟩
end ACT
/-! slots -/
def kSl (M : mM) (s : Nat → Option pg) : Prop := ∃ (fl : Nat) (g : Nat → Option Nat), M 62 = .inr (4, [.ref 63, .int (nI fl)]) ∧ M 63 = .inl (2, 2, .inr g) ∧ (∀ i, i < 2 → g i = some (64 + 3 * i)) ∧ fl < 4 ∧ (∀ i, i < 2 → fl.testBit i = (s i).isSome) ∧ (∀ i, i < 2 → ∀ p, s i = some p → kP M (64 + 3 * i) p) ∧ ∀ i, i < 2 → ∃ f h dy, kS M (64 + 3 * i) f h dy
theorem kSl_ag {M M1 : mM} {a b : Nat} {x : Nat → Option pg} (h : kSl M x) (hg : ag M M1 a b) (hx : b ≤ 62 ∨ 70 ≤ a) : kSl M1 x := by
  obtain ⟨fi, g, h1, h2, h3, h4, h5, h6, h7⟩ := h
  refine ⟨fi, g, (hg _ (by omega)).trans h1, (hg _ (by omega)).trans h2, h3, h4, h5, fun i hi p hp => kP_ag (h6 i hi p hp) hg (by omega), fun i hi => ?_⟩
  obtain ⟨f, h, dy, q⟩ := h7 i hi
  exact ⟨f, h, dy, kS_ag q hg (by omega)⟩
section SLO
variable {d : Nat} {M : mM} {P : Option Value → mM → Prop} {s : Nat → Option pg}
theorem q_sForget (hA : kSl M s) (hp : ∀ M1, ag M M1 62 63 → kSl M1 (fun _ => none) → P none M1) : Ev 88 d mX4_forget none 0 [.ref 62] [] M P := by
  obtain ⟨fi, g, h1, h2, h3, h4, h5, h6, h7⟩ := hA
  refine ev_aload_n (i := 0) dX4_forget_0 rfl rfl ?_
  refine ev_iconst (v := nI 0) dX4_forget_1 rfl ?_
  refine ev_putI dX4_forget_2 fwX4_18 (by first | omega | decide) (by first | assumption | (simp (disch := omega) only [mu_s, mu_n]; first | assumption | rfl)) (Nat.le_of_ble_eq_true rfl) ?_
  refine ev_ret0 dX4_forget_5 rfl ?_
  refine hp _ (ag_mu (ag_rf M _ _) (by omega) (by omega)) ⟨0, g, mu_s _ _ _, (mu_n (by omega)).trans h2, h3, by omega, fun i hi => by simp, fun i hi p z => (by cases z), fun i hi => ?_⟩
  obtain ⟨f, h, dy, q⟩ := h7 i hi
  exact ⟨f, h, dy, kS_ag q (ag_mu (ag_rf M 62 63) (by omega) (by omega)) (by omega)⟩
theorem q_store {i : Nat} {p : pg} (hA : kSl M s) (hi : i < 2) (hs : kP M 8 p) (hp : ∀ M1, ag M M1 62 70 → kSl M1 (fun j => if j = i then some p else s j) → P none M1) : Ev 88 (d + 1) mX4_store none 0 [.ref 62, .int (nI i), .ref 8] [] M P := by
  obtain ⟨fl, g, h1, h2, h3, h4, h5, h6, h7⟩ := hA
  obtain ⟨f0, g0, d0, hs0⟩ := h7 i hi
  have hb : 2 ^ i < 4 := by
    have : 2 ^ i ≤ 2 ^ 1 := pw_le (by omega)
    omega
  refine ev_iload_n (i := 1) dX4_store_0 rfl rfl ?_
  refine ev_if_ltN 31 dX4_store_1 (by decide) (by omega) (fun b1 => by exfalso; omega) (fun b1 => ?_)
  refine ev_iload_n (i := 1) dX4_store_4 rfl rfl ?_
  refine ev_iconst (v := nI 2) dX4_store_5 rfl ?_
  refine ev_icmp_geN 31 dX4_store_6 (by decide) (by omega) (by omega) (fun b6 => by exfalso; omega) (fun b6 => ?_)
  refine ev_aload_n (i := 2) dX4_store_9 rfl rfl ?_
  refine ev_aload_n (i := 0) dX4_store_10 rfl rfl ?_
  refine ev_getfield dX4_store_11 fX4_11 (by first | omega | decide) (by first | assumption | (simp (disch := omega) only [mu_s, mu_n]; first | assumption | rfl)) (by rfl) ?_
  refine ev_iload_n (i := 1) dX4_store_14 rfl rfl ?_
  refine ev_aaload (r := 64 + 3 * i) dX4_store_15 (by first | omega | decide) (by first | assumption | (simp (disch := omega) only [mu_s, mu_n]; first | assumption | rfl)) (vp_in_nI (by omega) (by decide)) (by rw [n_cl (by omega)]; exact h3 _ hi) ?_
  refine ev_S2 (μ1 := mX7_copy) dX4_store_16 sX4_22 okX7_copy (Nat.le_of_ble_eq_true rfl) (Nat.le_of_ble_eq_true rfl) ?_
  refine q_copy (by omega) (by omega) (by omega) hs hs0 (fun M1 ha hk1 => ?_)
  have x1 : M1 62 = .inr (4, [.ref 63, .int (nI fl)]) := (ha _ (by omega)).trans h1
  refine ev_aload_n (i := 0) dX4_store_19 rfl rfl ?_
  refine ev_dup dX4_store_20 rfl ?_
  refine ev_getfield dX4_store_21 fX4_18 (by first | omega | decide) (by first | assumption | (simp (disch := omega) only [mu_s, mu_n]; first | assumption | rfl)) (by rfl) ?_
  refine ev_iconst (v := nI 1) dX4_store_24 rfl ?_
  refine ev_iload_n (i := 1) dX4_store_25 rfl rfl ?_
  refine ev_ishl1 dX4_store_26 (by omega) ?_
  refine ev_iorN dX4_store_27 ?_
  refine ev_putI dX4_store_28 fwX4_18 (by first | omega | decide) (by first | assumption | (simp (disch := omega) only [mu_s, mu_n]; first | assumption | rfl)) (Nat.le_of_ble_eq_true rfl) ?_
  refine ev_ret0 dX4_store_31 rfl ?_
  refine hp _ (ag_mu (ag_wd ha) (by omega) (by omega)) ⟨fl ||| 2 ^ i, g, mu_s _ _ _, (mu_n (by omega)).trans ((ha _ (by omega)).trans h2), h3, ?_, fun j hj => ?_, fun j hj p1 z => ?_, fun j hj => ?_⟩
  · exact Nat.or_lt_two_pow (n := 2) h4 hb
  · rw [Nat.testBit_or, h5 j hj, Nat.testBit_two_pow]
    by_cases e : j = i
    · subst e; simp
    · simp [e, Ne.symm e]
  · have z : (if j = i then some p else s j) = some p1 := z
    by_cases e : j = i
    · subst e
      rw [if_pos rfl] at z
      cases z
      exact kP_ag hk1 (ag_mu (ag_rf M1 62 63) (by omega) (by omega)) (by omega)
    · rw [if_neg e] at z
      exact kP_ag (kP_ag (h6 j hj p1 z) ha (by omega)) (ag_mu (ag_rf M1 62 63) (by omega) (by omega)) (by omega)
  · by_cases e : j = i
    · subst e
      obtain ⟨f, h, dy, q⟩ := kP_kS hk1
      exact ⟨f, h, dy, kS_ag q (ag_mu (ag_rf M1 62 63) (by omega) (by omega)) (by omega)⟩
    · obtain ⟨f, h, dy, q⟩ := h7 j hj
      exact ⟨f, h, dy, kS_ag (kS_ag q ha (by omega)) (ag_mu (ag_rf M1 62 63) (by omega) (by omega)) (by omega)⟩
theorem q_load0 {i : Nat} (hA : kSl M s) (hi : i < 2) (hs : s i = none) (hp : P (some (.int (bI false))) M) : Ev 88 (d + 1) mX4_load none 0 [.ref 62, .int (nI i), .ref 8] [] M P := by
  obtain ⟨fl, g, h1, h2, h3, h4, h5, h6, h7⟩ := hA
  have hb : ¬ fl / 2 ^ i % 2 = 1 := by rw [tb_d, h5 i hi, hs]; decide
  refine ev_iload_n (i := 1) dX4_load_0 rfl rfl ?_
  refine ev_if_ltN 20 dX4_load_1 (by decide) (by omega) (fun b1 => by exfalso; omega) (fun b1 => ?_)
  refine ev_iload_n (i := 1) dX4_load_4 rfl rfl ?_
  refine ev_iconst (v := nI 2) dX4_load_5 rfl ?_
  refine ev_icmp_geN 20 dX4_load_6 (by decide) (by omega) (by omega) (fun b6 => by exfalso; omega) (fun b6 => ?_)
  refine ev_aload_n (i := 0) dX4_load_9 rfl rfl ?_
  refine ev_getfield dX4_load_10 fX4_18 (by first | omega | decide) (by first | assumption | (simp (disch := omega) only [mu_s, mu_n]; first | assumption | rfl)) (by rfl) ?_
  refine ev_iload_n (i := 1) dX4_load_13 rfl rfl ?_
  refine ev_ishrN dX4_load_14 (by omega) (by omega) ?_
  refine ev_iconst (v := nI 1) dX4_load_15 rfl ?_
  refine ev_iand1 dX4_load_16 ?_
  refine ev_if_neN 22 dX4_load_17 (by decide) (by omega) (fun b17 => by exfalso; omega) (fun b17 => ?_)
  refine ev_iconst (v := nI 0) dX4_load_20 rfl ?_
  refine ev_reti dX4_load_21 rfl rfl ?_
  exact e_retF (rfl) hp
theorem q_load1 {i : Nat} {p : pg} {f0 g0 : Nat → Int32} {d0 : Int32} (hA : kSl M s) (hi : i < 2) (hs : s i = some p) (h8 : kS M 8 f0 g0 d0) (hp : ∀ M1, ag M M1 8 11 → kP M1 8 p → P (some (.int (bI true))) M1) : Ev 88 (d + 1) mX4_load none 0 [.ref 62, .int (nI i), .ref 8] [] M P := by
  obtain ⟨fl, g, h1, h2, h3, h4, h5, h6, h7⟩ := hA
  have hb : fl / 2 ^ i % 2 = 1 := by rw [tb_d, h5 i hi, hs]; rfl
  refine ev_iload_n (i := 1) dX4_load_0 rfl rfl ?_
  refine ev_if_ltN 20 dX4_load_1 (by decide) (by omega) (fun b1 => by exfalso; omega) (fun b1 => ?_)
  refine ev_iload_n (i := 1) dX4_load_4 rfl rfl ?_
  refine ev_iconst (v := nI 2) dX4_load_5 rfl ?_
  refine ev_icmp_geN 20 dX4_load_6 (by decide) (by omega) (by omega) (fun b6 => by exfalso; omega) (fun b6 => ?_)
  refine ev_aload_n (i := 0) dX4_load_9 rfl rfl ?_
  refine ev_getfield dX4_load_10 fX4_18 (by first | omega | decide) (by first | assumption | (simp (disch := omega) only [mu_s, mu_n]; first | assumption | rfl)) (by rfl) ?_
  refine ev_iload_n (i := 1) dX4_load_13 rfl rfl ?_
  refine ev_ishrN dX4_load_14 (by omega) (by omega) ?_
  refine ev_iconst (v := nI 1) dX4_load_15 rfl ?_
  refine ev_iand1 dX4_load_16 ?_
  refine ev_if_neN 22 dX4_load_17 (by decide) (by omega) (fun b17 => ?_) (fun b17 => by exfalso; omega)
  refine ev_aload_n (i := 0) dX4_load_22 rfl rfl ?_
  refine ev_getfield dX4_load_23 fX4_11 (by first | omega | decide) (by first | assumption | (simp (disch := omega) only [mu_s, mu_n]; first | assumption | rfl)) (by rfl) ?_
  refine ev_iload_n (i := 1) dX4_load_26 rfl rfl ?_
  refine ev_aaload (r := 64 + 3 * i) dX4_load_27 (by first | omega | decide) (by first | assumption | (simp (disch := omega) only [mu_s, mu_n]; first | assumption | rfl)) (vp_in_nI (by omega) (by decide)) (by rw [n_cl (by omega)]; exact h3 _ hi) ?_
  refine ev_aload_n (i := 2) dX4_load_28 rfl rfl ?_
  refine ev_S2 (μ1 := mX7_copy) dX4_load_29 sX4_22 okX7_copy (Nat.le_of_ble_eq_true rfl) (Nat.le_of_ble_eq_true rfl) ?_
  refine q_copy (by omega) (by omega) (by omega) (h6 i hi p hs) h8 (fun M1 ha hk1 => ?_)
  refine ev_iconst (v := nI 1) dX4_load_32 rfl ?_
  refine ev_reti dX4_load_33 rfl (rfl) ?_
  exact hp M1 ha hk1
end SLO
/-! times -/
def kTm (M : mM) (o : Nat → Nat) : Prop := M 70 = .inr (6, [.ref 71]) ∧ arr M 71 6 6 o
theorem kTm_ag {M M1 : mM} {a b : Nat} {o : Nat → Nat} (h : kTm M o) (hg : ag M M1 a b) (hx : b ≤ 70 ∨ 72 ≤ a) : kTm M1 o := by
  obtain ⟨h1, f, h2, h3⟩ := h
  exact ⟨(hg _ (by omega)).trans h1, f, (hg _ (by omega)).trans h2, h3⟩
section TIM
variable {d : Nat} {M : mM} {P : Option Value → mM → Prop} {o : Nat → Nat}
theorem q_start (hT : kTm M o) (hp : ∀ M1, ag M M1 71 72 → kTm M1 (fun _ => 0) → P none M1) : Ev 88 d mX6_start none 0 [.ref 70, .null] [] M P := by
  obtain ⟨h0, f, h1, h2⟩ := hT
  have lp : ∀ (j c : Nat) (M1 : mM) (f1 : Nat → Int32), c + j = 6 → ag M M1 71 72 → M1 71 = .inl (0, 6, .inl f1) → (∀ i, i < c → f1 i = nI 0) → Ev 88 d mX6_start none 2 [.ref 70, .int (nI c)] [] M1 P := by
    intro j
    induction j with
    | zero =>
      intro c M1 f1 hc ha hm e1
      obtain rfl : c = 6 := by omega
      refine ev_iload_n (i := 1) dX6_start_2 rfl rfl ?_
      refine ev_bipush (v := nI 6) dX6_start_3 rfl ?_
      refine ev_icmp_geN 21 dX6_start_5 (by decide) (by omega) (by omega) (fun b5 => ?_) (fun b5 => by exfalso; omega)
      refine ev_ret0 dX6_start_21 rfl ?_
      exact hp M1 ha ⟨(ha _ (by omega)).trans h0, f1, hm, e1⟩
    | succ j ih =>
      intro c M1 f1 hc ha hm e1
      have x0 := (ha 70 (by omega)).trans h0
      refine ev_iload_n (i := 1) dX6_start_2 rfl rfl ?_
      refine ev_bipush (v := nI 6) dX6_start_3 rfl ?_
      refine ev_icmp_geN 21 dX6_start_5 (by decide) (by omega) (by omega) (fun b5 => by exfalso; omega) (fun b5 => ?_)
      refine ev_aload_n (i := 0) dX6_start_8 rfl rfl ?_
      refine ev_getfield dX6_start_9 fX6_9 (by first | omega | decide) (by first | assumption | (simp (disch := omega) only [mu_s, mu_n]; first | assumption | rfl)) (by rfl) ?_
      refine ev_iload_n (i := 1) dX6_start_12 rfl rfl ?_
      refine ev_iconst (v := nI 0) dX6_start_13 rfl ?_
      refine ev_iastoreN dX6_start_14 (by first | omega | decide) (by first | assumption | (simp (disch := omega) only [mu_s, mu_n]; first | assumption | rfl)) (by omega) (by decide) ?_
      refine ev_incN dX6_start_15 (by rfl) (by decide) rfl ?_
      refine ev_goto 2 dX6_start_18 (by decide) ?_
      refine ih _ _ _ (by omega) (ag_mu ha (by omega) (by omega)) (mu_s _ _ _) (fun i hi => ?_)
      unfold upd
      by_cases e : i = c
      · rw [if_pos e]
      · rw [if_neg e]; exact e1 i (by omega)
  refine ev_iconst (v := nI 0) dX6_start_0 rfl ?_
  refine ev_istore_n (i := 1) dX6_start_1 rfl (by decide) rfl ?_
  exact lp 6 0 M f rfl (ag_rf M _ _) h1 (fun i hi => absurd hi (by omega))
theorem q_howOften {l : Nat} (hT : kTm M o) (hl : l < 6) (hp : P (some (.int (nI (o l)))) M) : Ev 88 d mX6_howOften none 0 [.ref 70, .int (nI l)] [] M P := by
  obtain ⟨h0, f, h1, h2⟩ := hT
  rw [← h2 l hl] at hp
  refine ev_iload_n (i := 1) dX6_howOften_0 rfl rfl ?_
  refine ev_if_ltN 19 dX6_howOften_1 (by decide) (by omega) (fun b1 => by exfalso; omega) (fun b1 => ?_)
  refine ev_iload_n (i := 1) dX6_howOften_4 rfl rfl ?_
  refine ev_bipush (v := nI 6) dX6_howOften_5 rfl ?_
  refine ev_icmp_geN 19 dX6_howOften_7 (by decide) (by omega) (by omega) (fun b7 => by exfalso; omega) (fun b7 => ?_)
  refine ev_aload_n (i := 0) dX6_howOften_10 rfl rfl ?_
  refine ev_getfield dX6_howOften_11 fX6_9 (by first | omega | decide) (by first | assumption | (simp (disch := omega) only [mu_s, mu_n]; first | assumption | rfl)) (by rfl) ?_
  refine ev_iload_n (i := 1) dX6_howOften_14 rfl rfl ?_
  refine ev_ialoadN dX6_howOften_15 (by first | omega | decide) (by first | assumption | (simp (disch := omega) only [mu_s, mu_n]; first | assumption | rfl)) (by omega) (by decide) ?_
  refine ev_goto 20 dX6_howOften_16 (by decide) ?_
  refine ev_reti dX6_howOften_20 rfl rfl ?_
  exact hp
theorem q_lettersThere {k : Nat} (hT : kTm M o) (ho : ∀ l, l < 6 → o l ≤ 2) (hk : k < 2 ^ 31) (hp : P (some (.int (nI (bN (fun l => decide (o l = k)) 6)))) M) : Ev 88 d mX6_lettersThere none 0 [.ref 70, .int (nI k), .null, .null] [] M P := by
  obtain ⟨h0, f, h1, h2⟩ := hT
  have lp : ∀ (j c acc : Nat), c + j = 6 → acc = bN (fun l => decide (o l = k)) c → Ev 88 d mX6_lettersThere none 4 [.ref 70, .int (nI k), .int (nI acc), .int (nI c)] [] M P := by
    intro j
    induction j with
    | zero =>
      intro c acc hc ha
      obtain rfl : c = 6 := by omega
      subst ha
      refine ev_iload_n (i := 3) dX6_lettersThere_4 rfl rfl ?_
      refine ev_bipush (v := nI 6) dX6_lettersThere_5 rfl ?_
      refine ev_icmp_geN 32 dX6_lettersThere_7 (by decide) (by omega) (by omega) (fun b7 => ?_) (fun b7 => by exfalso; omega)
      refine ev_iload_n (i := 2) dX6_lettersThere_32 rfl rfl ?_
      refine ev_reti dX6_lettersThere_33 rfl rfl ?_
      exact hp
    | succ j ih =>
      intro c acc hc ha
      have hv := h2 c (by omega)
      have hv2 := ho c (by omega)
      refine ev_iload_n (i := 3) dX6_lettersThere_4 rfl rfl ?_
      refine ev_bipush (v := nI 6) dX6_lettersThere_5 rfl ?_
      refine ev_icmp_geN 32 dX6_lettersThere_7 (by decide) (by omega) (by omega) (fun b7 => by exfalso; omega) (fun b7 => ?_)
      refine ev_aload_n (i := 0) dX6_lettersThere_10 rfl rfl ?_
      refine ev_getfield dX6_lettersThere_11 fX6_9 (by first | omega | decide) (by first | assumption | (simp (disch := omega) only [mu_s, mu_n]; first | assumption | rfl)) (by rfl) ?_
      refine ev_iload_n (i := 3) dX6_lettersThere_14 rfl rfl ?_
      refine ev_ialoadN dX6_lettersThere_15 (by first | omega | decide) (by first | assumption | (simp (disch := omega) only [mu_s, mu_n]; first | assumption | rfl)) (by omega) (by decide) ?_
      refine ev_top (i_op hv) ?_
      refine ev_iload_n (i := 1) dX6_lettersThere_16 rfl rfl ?_
      refine ev_icmp_neN 26 dX6_lettersThere_17 (by decide) (by omega) (by omega) (fun b17 => ?_) (fun b17 => ?_)
      · skip
        refine ev_incN dX6_lettersThere_26 (by rfl) (by decide) rfl ?_
        refine ev_goto 4 dX6_lettersThere_29 (by decide) ?_
        first
        | exact ih _ _ (by omega) (ha.trans (bN_f (by simpa using b17)))
        | exact ih _ _ (by omega) (by rw [ha]; exact bN_t (by simpa using b17))
      · skip
        refine ev_iload_n (i := 2) dX6_lettersThere_20 rfl rfl ?_
        refine ev_iconst (v := nI 1) dX6_lettersThere_21 rfl ?_
        refine ev_iload_n (i := 3) dX6_lettersThere_22 rfl rfl ?_
        refine ev_ishl1 dX6_lettersThere_23 (by omega) ?_
        refine ev_iorN dX6_lettersThere_24 ?_
        refine ev_istore_n (i := 2) dX6_lettersThere_25 rfl (by decide) rfl ?_
        refine ev_incN dX6_lettersThere_26 (by rfl) (by decide) rfl ?_
        refine ev_goto 4 dX6_lettersThere_29 (by decide) ?_
        first
        | exact ih _ _ (by omega) (ha.trans (bN_f (by simpa using b17)))
        | exact ih _ _ (by omega) (by rw [ha]; exact bN_t (by simpa using b17))
  refine ev_iconst (v := nI 0) dX6_lettersThere_0 rfl ?_
  refine ev_istore_n (i := 2) dX6_lettersThere_1 rfl (by decide) rfl ?_
  refine ev_iconst (v := nI 0) dX6_lettersThere_2 rfl ?_
  refine ev_istore_n (i := 3) dX6_lettersThere_3 rfl (by decide) rfl ?_
  exact lp 6 0 0 rfl rfl
/-- the next row: the first that isn't 2 grows, those before it are 0 -/
def nxT (o : Nat → Nat) (i : Nat) : Nat → Nat := fun l => if l < i then 0 else if l = i then o l + 1 else o l
theorem q_next {i : Nat} (hT : kTm M o) (ho : ∀ l, l < 6 → o l ≤ 2) (hi : i ≤ 6) (h2 : ∀ l, l < i → o l = 2) (hn : i < 6 → o i ≠ 2) (hp : ∀ M1, ag M M1 71 72 → kTm M1 (nxT o i) → P none M1) : Ev 88 d mX6_next none 0 [.ref 70, .null] [] M P := by
  obtain ⟨h0, f, h1, hf⟩ := hT
  have lp : ∀ (j c : Nat) (M1 : mM) (f1 : Nat → Int32), c + j = i → ag M M1 71 72 → M1 71 = .inl (0, 6, .inl f1) → (∀ l, l < 6 → f1 l = nI (if l < c then 0 else o l)) → Ev 88 d mX6_next none 2 [.ref 70, .int (nI c)] [] M1 P := by
    intro j
    induction j with
    | zero =>
      intro c M1 f1 hc ha hm e1
      obtain rfl : c = i := by omega
      have x0 := (ha 70 (by omega)).trans h0
      by_cases hc6 : c < 6
      · have hv : f1 c = nI (o c) := by rw [e1 c hc6, if_neg (by omega)]
        have hv2 := ho c hc6
        have hn2 := hn hc6
        refine ev_iload_n (i := 1) dX6_next_2 rfl rfl ?_
        refine ev_bipush (v := nI 6) dX6_next_3 rfl ?_
        refine ev_icmp_geN 31 dX6_next_5 (by decide) (by omega) (by omega) (fun b5 => by exfalso; omega) (fun b5 => ?_)
        refine ev_aload_n (i := 0) dX6_next_8 rfl rfl ?_
        refine ev_getfield dX6_next_9 fX6_9 (by first | omega | decide) (by first | assumption | (simp (disch := omega) only [mu_s, mu_n]; first | assumption | rfl)) (by rfl) ?_
        refine ev_iload_n (i := 1) dX6_next_12 rfl rfl ?_
        refine ev_ialoadN dX6_next_13 (by first | omega | decide) (by first | assumption | (simp (disch := omega) only [mu_s, mu_n]; first | assumption | rfl)) (by omega) (by decide) ?_
        refine ev_top (i_op hv) ?_
        refine ev_iconst (v := nI 2) dX6_next_14 rfl ?_
        refine ev_icmp_neN 31 dX6_next_15 (by decide) (by omega) (by omega) (fun b15 => ?_) (fun b15 => by exfalso; omega)
        refine ev_iload_n (i := 1) dX6_next_31 rfl rfl ?_
        refine ev_bipush (v := nI 6) dX6_next_32 rfl ?_
        refine ev_icmp_geN 47 dX6_next_34 (by decide) (by omega) (by omega) (fun b34 => by exfalso; omega) (fun b34 => ?_)
        refine ev_aload_n (i := 0) dX6_next_37 rfl rfl ?_
        refine ev_getfield dX6_next_38 fX6_9 (by first | omega | decide) (by first | assumption | (simp (disch := omega) only [mu_s, mu_n]; first | assumption | rfl)) (by rfl) ?_
        refine ev_iload_n (i := 1) dX6_next_41 rfl rfl ?_
        refine ev_dup2 dX6_next_42 rfl rfl ?_
        refine ev_ialoadN dX6_next_43 (by first | omega | decide) (by first | assumption | (simp (disch := omega) only [mu_s, mu_n]; first | assumption | rfl)) (by omega) (by decide) ?_
        refine ev_top (i_op hv) ?_
        refine ev_iconst (v := nI 1) dX6_next_44 rfl ?_
        refine ev_iaddN dX6_next_45 ?_
        refine ev_iastoreN dX6_next_46 (by first | omega | decide) (by first | assumption | (simp (disch := omega) only [mu_s, mu_n]; first | assumption | rfl)) (by omega) (by decide) ?_
        refine ev_ret0 dX6_next_47 rfl ?_
        refine hp _ (ag_mu ha (by omega) (by omega)) ⟨(mu_n (by omega)).trans x0, _, mu_s _ _ _, fun l hl => ?_⟩
        unfold upd nxT
        by_cases e : l = c
        · subst e; simp
        · rw [if_neg e, e1 l hl]
          by_cases e3 : l < c
          · simp [e3]
          · simp [e3, e]
      · obtain rfl : c = 6 := by omega
        refine ev_iload_n (i := 1) dX6_next_2 rfl rfl ?_
        refine ev_bipush (v := nI 6) dX6_next_3 rfl ?_
        refine ev_icmp_geN 31 dX6_next_5 (by decide) (by omega) (by omega) (fun b5 => ?_) (fun b5 => by exfalso; omega)
        refine ev_iload_n (i := 1) dX6_next_31 rfl rfl ?_
        refine ev_bipush (v := nI 6) dX6_next_32 rfl ?_
        refine ev_icmp_geN 47 dX6_next_34 (by decide) (by omega) (by omega) (fun b34 => ?_) (fun b34 => by exfalso; omega)
        refine ev_ret0 dX6_next_47 rfl ?_
        refine hp _ ha ⟨x0, _, hm, fun l hl => ?_⟩
        rw [e1 l hl]
        unfold nxT
        simp [hl]
    | succ j ih =>
      intro c M1 f1 hc ha hm e1
      have x0 := (ha 70 (by omega)).trans h0
      have hv : f1 c = nI 2 := by rw [e1 c (by omega), if_neg (by omega), h2 c (by omega)]
      refine ev_iload_n (i := 1) dX6_next_2 rfl rfl ?_
      refine ev_bipush (v := nI 6) dX6_next_3 rfl ?_
      refine ev_icmp_geN 31 dX6_next_5 (by decide) (by omega) (by omega) (fun b5 => by exfalso; omega) (fun b5 => ?_)
      refine ev_aload_n (i := 0) dX6_next_8 rfl rfl ?_
      refine ev_getfield dX6_next_9 fX6_9 (by first | omega | decide) (by first | assumption | (simp (disch := omega) only [mu_s, mu_n]; first | assumption | rfl)) (by rfl) ?_
      refine ev_iload_n (i := 1) dX6_next_12 rfl rfl ?_
      refine ev_ialoadN dX6_next_13 (by first | omega | decide) (by first | assumption | (simp (disch := omega) only [mu_s, mu_n]; first | assumption | rfl)) (by omega) (by decide) ?_
      refine ev_top (i_op hv) ?_
      refine ev_iconst (v := nI 2) dX6_next_14 rfl ?_
      refine ev_icmp_neN 31 dX6_next_15 (by decide) (by omega) (by omega) (fun b15 => by exfalso; omega) (fun b15 => ?_)
      refine ev_aload_n (i := 0) dX6_next_18 rfl rfl ?_
      refine ev_getfield dX6_next_19 fX6_9 (by first | omega | decide) (by first | assumption | (simp (disch := omega) only [mu_s, mu_n]; first | assumption | rfl)) (by rfl) ?_
      refine ev_iload_n (i := 1) dX6_next_22 rfl rfl ?_
      refine ev_iconst (v := nI 0) dX6_next_23 rfl ?_
      refine ev_iastoreN dX6_next_24 (by first | omega | decide) (by first | assumption | (simp (disch := omega) only [mu_s, mu_n]; first | assumption | rfl)) (by omega) (by decide) ?_
      refine ev_incN dX6_next_25 (by rfl) (by decide) rfl ?_
      refine ev_goto 2 dX6_next_28 (by decide) ?_
      refine ih _ _ _ (by omega) (ag_mu ha (by omega) (by omega)) (mu_s _ _ _) (fun l hl => ?_)
      unfold upd
      by_cases e : l = c
      · subst e; simp
      · rw [if_neg e, e1 l hl]
        have e3 : (l < c + 1) ↔ l < c := by omega
        simp only [e3]
  refine ev_iconst (v := nI 0) dX6_next_0 rfl ?_
  refine ev_istore_n (i := 1) dX6_next_1 rfl (by decide) rfl ?_
  exact lp i 0 M f (by omega) (ag_rf M _ _) h1 (fun l hl => by rw [if_neg (by omega)]; exact hf l hl)
end TIM
