/-! ===== the constructors ===== -/
theorem kP_eq {M M1 : mM} {k : Nat} {p : pg} (h : kP M k p) (h0 : M1 k = M k) (h1 : M1 (k + 1) = M (k + 1)) (h2 : M1 (k + 2) = M (k + 2)) : kP M1 k p := by
  obtain ⟨f, g, ⟨x0, x1, x2⟩, y⟩ := h
  exact ⟨f, g, ⟨h0.trans x0, h1.trans x1, h2.trans x2⟩, y⟩
theorem wfM_kP {N k : Nat} {M M1 : mM} {p : pg} (h : wfM N M) (ha : ag M M1 k (k + 3)) (hp : kP M1 k p) (hk : k + 2 < N) : wfM N M1 := fun j hj => by
  obtain ⟨f, g, ⟨x0, x1, x2⟩, -⟩ := hp
  by_cases c0 : j = k
  · rw [c0, x0]
    intro v hv i hi
    rw [hi] at hv
    rcases List.mem_cons.mp hv with z | hv
    · cases z; exact (by omega : k + 1 < N)
    rcases List.mem_cons.mp hv with z | hv
    · cases z; exact hk
    · cases (List.mem_singleton.mp hv)
  by_cases c1 : j = k + 1
  · rw [c1, x1]; trivial
  by_cases c2 : j = k + 2
  · rw [c2, x2]; trivial
  rw [ha j (by omega)]
  exact h j hj
theorem wfM_kG {N k : Nat} {M M1 : mM} {p : pg} (h : wfM N M) (ha : ag M M1 k (k + 1)) (hp : kG M1 k p) : wfM N M1 := fun j hj => by
  obtain ⟨f, x0, -⟩ := hp
  by_cases c0 : j = k
  · rw [c0, x0]; trivial
  rw [ha j (by omega)]
  exact h j hj
def pz : pg := (fun _ => 0, fun _ => some 0, 0)
theorem kP_z {M : mM} {k : Nat} (h0 : M k = .inr (3, [.ref (k + 1), .ref (k + 2), .int 0])) (h1 : M (k + 1) = .inl (0, 12, .inl (fun _ => 0))) (h2 : M (k + 2) = .inl (0, 12, .inl (fun _ => 0))) : kP M k pz := ⟨_, _, ⟨h0, h1, h2⟩, fun _ _ => rfl, fun _ _ => rfl⟩
theorem i_X5 {q d : Nat} {M : mM} {P : Nat → mM → Prop} (hM : M q = .inr (5, [.null, .int 0])) (hp : ∀ M1, (∀ k, k < q → M1 k = M k) → M1 q = .inr (5, [.ref (q + 1), .int 0]) → M1 (q + 1) = .inl (0, 40, .inl (fun _ => 0)) → P (q + 2) M1) : Gv (q + 1) (d + 1) 1 40 mX5_init 0 [.ref q] [] M P := by
  refine gv_aload0 dX5_init_0 rfl ?_
  refine gv_obj dX5_init_1 obX5 ob_i ob_c (by omega) (Nat.le_of_ble_eq_true rfl) ?_
  refine gv_aload0 dX5_init_4 rfl ?_
  refine gv_bipush (v := nI 40) dX5_init_5 rfl ?_
  refine gv_newI (nc := 0) (ns := 0) (n := 40) dX5_init_7 ac_i (by decide) ?_
  refine gv_put (fs := [.null, .int 0]) (q := q) dX5_init_9 pfX5_9 rfl (by omega) (by first | assumption | (simp (disch := omega) only [mu_s, mu_n] <;> first | assumption | rfl)) (Nat.le_of_ble_eq_true rfl) ?_
  exact gv_ret0 dX5_init_12 rfl (hp _ (fun k hk => by simp (disch := omega) only [mu_n]) (by first | assumption | (simp (disch := omega) only [mu_s, mu_n] <;> first | assumption | rfl)) (by first | assumption | (simp (disch := omega) only [mu_s, mu_n] <;> first | assumption | rfl)))
theorem i_X1 {q d : Nat} {M : mM} {P : Nat → mM → Prop} (hM : M q = .inr (1, [.null, .null, .null, .null, .int 0])) (hp : ∀ M1, (∀ k, k < q → M1 k = M k) → M1 q = .inr (1, [.ref (q + 1), .ref (q + 2), .ref (q + 3), .ref (q + 4), .int 0]) → M1 (q + 1) = .inl (0, 6, .inl (fun _ => 0)) → M1 (q + 2) = .inl (0, 6, .inl (fun _ => 0)) → M1 (q + 3) = .inl (0, 6, .inl (fun _ => 0)) → M1 (q + 4) = .inl (0, 6, .inl (fun _ => 0)) → P (q + 5) M1) : Gv (q + 1) (d + 1) 4 24 mX1_init 0 [.ref q] [] M P := by
  refine gv_aload0 dX1_init_0 rfl ?_
  refine gv_obj dX1_init_1 obX1 ob_i ob_c (by omega) (Nat.le_of_ble_eq_true rfl) ?_
  refine gv_aload0 dX1_init_4 rfl ?_
  refine gv_bipush (v := nI 6) dX1_init_5 rfl ?_
  refine gv_newI (nc := 3) (ns := 18) (n := 6) dX1_init_7 ac_i (by decide) ?_
  refine gv_put (fs := [.null, .null, .null, .null, .int 0]) (q := q) dX1_init_9 pfX1_9 rfl (by omega) (by first | assumption | (simp (disch := omega) only [mu_s, mu_n] <;> first | assumption | rfl)) (Nat.le_of_ble_eq_true rfl) ?_
  refine gv_aload0 dX1_init_12 rfl ?_
  refine gv_bipush (v := nI 6) dX1_init_13 rfl ?_
  refine gv_newI (nc := 2) (ns := 12) (n := 6) dX1_init_15 ac_i (by decide) ?_
  refine gv_put (fs := [.ref (q + 1), .null, .null, .null, .int 0]) (q := q) dX1_init_17 pfX1_15 rfl (by omega) (by first | assumption | (simp (disch := omega) only [mu_s, mu_n] <;> first | assumption | rfl)) (Nat.le_of_ble_eq_true rfl) ?_
  refine gv_aload0 dX1_init_20 rfl ?_
  refine gv_bipush (v := nI 6) dX1_init_21 rfl ?_
  refine gv_newI (nc := 1) (ns := 6) (n := 6) dX1_init_23 ac_i (by decide) ?_
  refine gv_put (fs := [.ref (q + 1), .ref (q + 1 + 1), .null, .null, .int 0]) (q := q) dX1_init_25 pfX1_18 rfl (by omega) (by first | assumption | (simp (disch := omega) only [mu_s, mu_n] <;> first | assumption | rfl)) (Nat.le_of_ble_eq_true rfl) ?_
  refine gv_aload0 dX1_init_28 rfl ?_
  refine gv_bipush (v := nI 6) dX1_init_29 rfl ?_
  refine gv_newI (nc := 0) (ns := 0) (n := 6) dX1_init_31 ac_i (by decide) ?_
  refine gv_put (fs := [.ref (q + 1), .ref (q + 1 + 1), .ref (q + 1 + 1 + 1), .null, .int 0]) (q := q) dX1_init_33 pfX1_21 rfl (by omega) (by first | assumption | (simp (disch := omega) only [mu_s, mu_n] <;> first | assumption | rfl)) (Nat.le_of_ble_eq_true rfl) ?_
  exact gv_ret0 dX1_init_36 rfl (hp _ (fun k hk => by simp (disch := omega) only [mu_n]) (by first | assumption | (simp (disch := omega) only [mu_s, mu_n] <;> first | assumption | rfl)) (by first | assumption | (simp (disch := omega) only [mu_s, mu_n] <;> first | assumption | rfl)) (by first | assumption | (simp (disch := omega) only [mu_s, mu_n] <;> first | assumption | rfl)) (by first | assumption | (simp (disch := omega) only [mu_s, mu_n] <;> first | assumption | rfl)) (by first | assumption | (simp (disch := omega) only [mu_s, mu_n] <;> first | assumption | rfl)))
theorem i_X2 {q d : Nat} {M : mM} {P : Nat → mM → Prop} (hM : M q = .inr (2, [.null, .null, .null, .int 0])) (hp : ∀ M1, (∀ k, k < q → M1 k = M k) → M1 q = .inr (2, [.ref (q + 1), .ref (q + 2), .ref (q + 3), .int 0]) → M1 (q + 1) = .inl (0, 6, .inl (fun _ => 0)) → M1 (q + 2) = .inl (0, 6, .inl (fun _ => 0)) → M1 (q + 3) = .inl (0, 64, .inl (fun _ => 0)) → P (q + 4) M1) : Gv (q + 1) (d + 1) 3 76 mX2_init 0 [.ref q] [] M P := by
  refine gv_aload0 dX2_init_0 rfl ?_
  refine gv_obj dX2_init_1 obX2 ob_i ob_c (by omega) (Nat.le_of_ble_eq_true rfl) ?_
  refine gv_aload0 dX2_init_4 rfl ?_
  refine gv_bipush (v := nI 6) dX2_init_5 rfl ?_
  refine gv_newI (nc := 2) (ns := 70) (n := 6) dX2_init_7 ac_i (by decide) ?_
  refine gv_put (fs := [.null, .null, .null, .int 0]) (q := q) dX2_init_9 pfX2_9 rfl (by omega) (by first | assumption | (simp (disch := omega) only [mu_s, mu_n] <;> first | assumption | rfl)) (Nat.le_of_ble_eq_true rfl) ?_
  refine gv_aload0 dX2_init_12 rfl ?_
  refine gv_bipush (v := nI 6) dX2_init_13 rfl ?_
  refine gv_newI (nc := 1) (ns := 64) (n := 6) dX2_init_15 ac_i (by decide) ?_
  refine gv_put (fs := [.ref (q + 1), .null, .null, .int 0]) (q := q) dX2_init_17 pfX2_15 rfl (by omega) (by first | assumption | (simp (disch := omega) only [mu_s, mu_n] <;> first | assumption | rfl)) (Nat.le_of_ble_eq_true rfl) ?_
  refine gv_aload0 dX2_init_20 rfl ?_
  refine gv_bipush (v := nI 64) dX2_init_21 rfl ?_
  refine gv_newI (nc := 0) (ns := 0) (n := 64) dX2_init_23 ac_i (by decide) ?_
  refine gv_put (fs := [.ref (q + 1), .ref (q + 1 + 1), .null, .int 0]) (q := q) dX2_init_25 pfX2_18 rfl (by omega) (by first | assumption | (simp (disch := omega) only [mu_s, mu_n] <;> first | assumption | rfl)) (Nat.le_of_ble_eq_true rfl) ?_
  exact gv_ret0 dX2_init_28 rfl (hp _ (fun k hk => by simp (disch := omega) only [mu_n]) (by first | assumption | (simp (disch := omega) only [mu_s, mu_n] <;> first | assumption | rfl)) (by first | assumption | (simp (disch := omega) only [mu_s, mu_n] <;> first | assumption | rfl)) (by first | assumption | (simp (disch := omega) only [mu_s, mu_n] <;> first | assumption | rfl)) (by first | assumption | (simp (disch := omega) only [mu_s, mu_n] <;> first | assumption | rfl)))
theorem i_X6 {q d : Nat} {M : mM} {P : Nat → mM → Prop} (hM : M q = .inr (6, [.null])) (hp : ∀ M1, (∀ k, k < q → M1 k = M k) → M1 q = .inr (6, [.ref (q + 1)]) → M1 (q + 1) = .inl (0, 6, .inl (fun _ => 0)) → P (q + 2) M1) : Gv (q + 1) (d + 1) 1 6 mX6_init 0 [.ref q] [] M P := by
  refine gv_aload0 dX6_init_0 rfl ?_
  refine gv_obj dX6_init_1 obX6 ob_i ob_c (by omega) (Nat.le_of_ble_eq_true rfl) ?_
  refine gv_aload0 dX6_init_4 rfl ?_
  refine gv_bipush (v := nI 6) dX6_init_5 rfl ?_
  refine gv_newI (nc := 0) (ns := 0) (n := 6) dX6_init_7 ac_i (by decide) ?_
  refine gv_put (fs := [.null]) (q := q) dX6_init_9 pfX6_9 rfl (by omega) (by first | assumption | (simp (disch := omega) only [mu_s, mu_n] <;> first | assumption | rfl)) (Nat.le_of_ble_eq_true rfl) ?_
  exact gv_ret0 dX6_init_12 rfl (hp _ (fun k hk => by simp (disch := omega) only [mu_n]) (by first | assumption | (simp (disch := omega) only [mu_s, mu_n] <;> first | assumption | rfl)) (by first | assumption | (simp (disch := omega) only [mu_s, mu_n] <;> first | assumption | rfl)))
theorem i_X3 {q d : Nat} {M : mM} {P : Nat → mM → Prop} (hM : M q = .inr (3, [.null, .null, .int 0])) (hp : ∀ M1, (∀ k, k < q → M1 k = M k) → kP M1 q (pgNew 0) → P (q + 3) M1) : Gv (q + 1) (d + 3) 2 24 mX3_init 0 [.ref q] [] M P := by
  refine gv_aload0 dX3_init_0 rfl ?_
  refine gv_obj dX3_init_1 obX3 ob_i ob_c (by omega) (Nat.le_of_ble_eq_true rfl) ?_
  refine gv_aload0 dX3_init_4 rfl ?_
  refine gv_bipush (v := nI 12) dX3_init_5 rfl ?_
  refine gv_newI (nc := 1) (ns := 12) (n := 12) dX3_init_7 ac_i (by decide) ?_
  refine gv_put (fs := [.null, .null, .int 0]) (q := q) dX3_init_9 pfX3_9 rfl (by omega) (by first | assumption | (simp (disch := omega) only [mu_s, mu_n] <;> first | assumption | rfl)) (Nat.le_of_ble_eq_true rfl) ?_
  refine gv_aload0 dX3_init_12 rfl ?_
  refine gv_bipush (v := nI 12) dX3_init_13 rfl ?_
  refine gv_newI (nc := 0) (ns := 0) (n := 12) dX3_init_15 ac_i (by decide) ?_
  refine gv_put (fs := [.ref (q + 1), .null, .int 0]) (q := q) dX3_init_17 pfX3_15 rfl (by omega) (by first | assumption | (simp (disch := omega) only [mu_s, mu_n] <;> first | assumption | rfl)) (Nat.le_of_ble_eq_true rfl) ?_
  refine gv_aload0 dX3_init_20 rfl ?_
  refine gv_wf (fun hw => ?_)
  refine gv_V0 (μ1 := mX3_renew) (ci := 3) dX3_init_21 sX3_18 okX3_renew (by omega) (by first | assumption | (simp (disch := omega) only [mu_s, mu_n] <;> first | assumption | rfl)) (Nat.le_of_ble_eq_true rfl) (Nat.le_of_ble_eq_true rfl) ?_
  refine q_renew (p := pz) (by omega) (kP_z (by first | assumption | (simp (disch := omega) only [mu_s, mu_n] <;> first | assumption | rfl)) (by first | assumption | (simp (disch := omega) only [mu_s, mu_n] <;> first | assumption | rfl)) (by first | assumption | (simp (disch := omega) only [mu_s, mu_n] <;> first | assumption | rfl))) (fun M1 ha hP => ⟨rfl, wfM_kP hw ha hP (by omega), ?_⟩)
  exact gv_ret0 dX3_init_24 rfl (hp _ (fun k hk => by rw [ha k (by omega)]; simp (disch := omega) only [mu_n]) hP)
theorem i_X0 {q d : Nat} {M : mM} {P : Nat → mM → Prop} (hM : M q = .inr (0, [.null, .int 0, .int 0])) (hp : ∀ M1 g, (∀ k, k < q → M1 k = M k) → M1 q = .inr (0, [.ref (q + 1), .int 0, .int 0]) → M1 (q + 1) = .inl (2, 14, .inr g) → (∀ j, j < 14 → g j = some (q + 2 + 3 * j)) → (∀ j, j < 14 → kP M1 (q + 2 + 3 * j) (pgNew 0)) → P (q + 2 + 3 * 14) M1) : Gv (q + 1) (d + 4) 43 392 mX0_init 0 [.ref q, .null] [] M P := by
  have lp : ∀ (r i : Nat) (M1 : mM) (g : Nat → Option Nat), i + r = 14 → (∀ k, k < q → M1 k = M k) → M1 q = .inr (0, [.ref (q + 1), .int 0, .int 0]) → M1 (q + 1) = .inl (2, 14, .inr g) → (∀ j, j < i → g j = some (q + 2 + 3 * j)) → (∀ j, j < i → kP M1 (q + 2 + 3 * j) (pgNew 0)) → Gv (q + 2 + 3 * i) (d + 4) (3 * r) (27 * r) mX0_init 15 [.ref q, .int (nI i)] [] M1 P := by
    intro r
    induction r with
    | zero =>
      intro i M1 g hi ha h0 h1 hg hk
      have hi : i = 14 := by omega
      subst hi
      refine gv_iload_n (i := 1) dX0_init_15 rfl rfl ?_
      refine gv_bipush (v := nI 14) dX0_init_16 rfl ?_
      refine gv_icmp_geN 40 dX0_init_18 (by decide) (by omega) (by omega) (fun b => ?_) (fun b => by exfalso; omega)
      exact gv_ret0 dX0_init_40 rfl (hp _ _ ha h0 h1 hg hk)
    | succ r ih =>
      intro i M1 g hi ha h0 h1 hg hk
      refine gv_iload_n (i := 1) dX0_init_15 rfl rfl ?_
      refine gv_bipush (v := nI 14) dX0_init_16 rfl ?_
      refine gv_icmp_geN 40 dX0_init_18 (by decide) (by omega) (by omega) (fun b => by exfalso; omega) (fun b => ?_)
      refine gv_aload0 dX0_init_21 rfl ?_
      refine gv_getfield (fs := [.ref (q + 1), .int 0, .int 0]) dX0_init_22 fX0_11 (by omega) h0 rfl ?_
      refine gv_iload_n (i := 1) dX0_init_25 rfl rfl ?_
      show Gv (q + 2 + 3 * i) (d + 4) (3 * r + 2 + 1) (27 * r + 24 + 3) mX0_init 26 _ _ M1 P
      refine gv_newc (nc := 3 * r + 2) (ns := 27 * r + 24) (fs := [.null, .null, .int 0]) dX0_init_26 clXX0_9 dfX3 ?_
      refine gv_dup dX0_init_29 rfl ?_
      refine gv_invI (μ1 := mX3_init) (nc := 3 * r) (ns := 27 * r) (mc := 2) (ms := 24) dX0_init_30 sX0_17 okX3_init (by omega) (Nat.le_of_ble_eq_true rfl) ?_
      refine i_X3 (q := q + 2 + 3 * i) (mu_s _ _ _) (fun M2 ha2 hS => ⟨by omega, ?_⟩)
      have x0 : M2 q = .inr (0, [.ref (q + 1), .int 0, .int 0]) := by rw [ha2 q (by omega), mu_n (by omega)]; exact h0
      have x1 : M2 (q + 1) = .inl (2, 14, .inr g) := by rw [ha2 (q + 1) (by omega), mu_n (by omega)]; exact h1
      obtain ⟨f2, g2, ⟨s0, s1, s2⟩, s3⟩ := id hS
      refine gv_aast (a := q + 1) (x := q + 2 + 3 * i) dX0_init_33 (by omega) (by omega) x1 s0 (by omega) (by decide) ?_
      refine gv_incN dX0_init_34 rfl (by decide) rfl ?_
      refine gv_goto 15 dX0_init_37 (by decide) ?_
      have e3 : q + 2 + 3 * (i + 1) = q + 2 + 3 * i + 3 := by omega
      have r3 := ih (i + 1) (mu M2 (q + 1) (.inl (2, 14, .inr (va_up g i (some (q + 2 + 3 * i)))))) (va_up g i (some (q + 2 + 3 * i))) (by omega) (fun k hk1 => by rw [mu_n (by omega), ha2 k (by omega), mu_n (by omega)]; exact ha k hk1) (by rw [mu_n (by omega)]; exact x0) (mu_s _ _ _) (fun j hj => by
          by_cases c : j = i
          · rw [c, va_up_self]
          · rw [va_up_ne _ _ c]; exact hg j (by omega)) (fun j hj => by
          by_cases c : j = i
          · rw [c]; exact kP_eq hS (mu_n (by omega)) (mu_n (by omega)) (mu_n (by omega))
          · exact kP_eq (hk j (by omega)) (by rw [mu_n (by omega), ha2 _ (by omega), mu_n (by omega)]) (by rw [mu_n (by omega), ha2 _ (by omega), mu_n (by omega)]) (by rw [mu_n (by omega), ha2 _ (by omega), mu_n (by omega)]))
      rw [e3] at r3
      exact r3
  refine gv_aload0 dX0_init_0 rfl ?_
  refine gv_obj dX0_init_1 obX0 ob_i ob_c (by omega) (Nat.le_of_ble_eq_true rfl) ?_
  refine gv_aload0 dX0_init_4 rfl ?_
  refine gv_bipush (v := nI 14) dX0_init_5 rfl ?_
  refine gv_newA (nc := 3 * 14) (ns := 27 * 14) (n := 14) dX0_init_7 cwXX0_9 (by decide) ?_
  refine gv_put (fs := [.null, .int 0, .int 0]) (q := q) dX0_init_10 pfX0_11 rfl (by omega) (by first | assumption | (simp (disch := omega) only [mu_s, mu_n] <;> first | assumption | rfl)) (by decide) ?_
  refine gv_iconst (v := nI 0) dX0_init_13 rfl ?_
  refine gv_istore_n (i := 1) dX0_init_14 rfl (by decide) rfl ?_
  exact lp 14 0 _ (fun _ => none) rfl (fun k hk => by simp (disch := omega) only [mu_n]) (by first | assumption | (simp (disch := omega) only [mu_s, mu_n] <;> first | assumption | rfl)) (by first | assumption | (simp (disch := omega) only [mu_s, mu_n] <;> first | assumption | rfl)) (fun j hj => absurd hj (Nat.not_lt_zero j)) (fun j hj => absurd hj (Nat.not_lt_zero j))
theorem i_X4 {q d : Nat} {M : mM} {P : Nat → mM → Prop} (hM : M q = .inr (4, [.null, .int 0])) (hp : ∀ M1 g, (∀ k, k < q → M1 k = M k) → M1 q = .inr (4, [.ref (q + 1), .int 0]) → M1 (q + 1) = .inl (2, 2, .inr g) → (∀ j, j < 2 → g j = some (q + 2 + 3 * j)) → (∀ j, j < 2 → kP M1 (q + 2 + 3 * j) (pgNew 0)) → P (q + 2 + 3 * 2) M1) : Gv (q + 1) (d + 4) 7 56 mX4_init 0 [.ref q, .null] [] M P := by
  have lp : ∀ (r i : Nat) (M1 : mM) (g : Nat → Option Nat), i + r = 2 → (∀ k, k < q → M1 k = M k) → M1 q = .inr (4, [.ref (q + 1), .int 0]) → M1 (q + 1) = .inl (2, 2, .inr g) → (∀ j, j < i → g j = some (q + 2 + 3 * j)) → (∀ j, j < i → kP M1 (q + 2 + 3 * j) (pgNew 0)) → Gv (q + 2 + 3 * i) (d + 4) (3 * r) (27 * r) mX4_init 14 [.ref q, .int (nI i)] [] M1 P := by
    intro r
    induction r with
    | zero =>
      intro i M1 g hi ha h0 h1 hg hk
      have hi : i = 2 := by omega
      subst hi
      refine gv_iload_n (i := 1) dX4_init_14 rfl rfl ?_
      refine gv_iconst (v := nI 2) dX4_init_15 rfl ?_
      refine gv_icmp_geN 38 dX4_init_16 (by decide) (by omega) (by omega) (fun b => ?_) (fun b => by exfalso; omega)
      exact gv_ret0 dX4_init_38 rfl (hp _ _ ha h0 h1 hg hk)
    | succ r ih =>
      intro i M1 g hi ha h0 h1 hg hk
      refine gv_iload_n (i := 1) dX4_init_14 rfl rfl ?_
      refine gv_iconst (v := nI 2) dX4_init_15 rfl ?_
      refine gv_icmp_geN 38 dX4_init_16 (by decide) (by omega) (by omega) (fun b => by exfalso; omega) (fun b => ?_)
      refine gv_aload0 dX4_init_19 rfl ?_
      refine gv_getfield (fs := [.ref (q + 1), .int 0]) dX4_init_20 fX4_11 (by omega) h0 rfl ?_
      refine gv_iload_n (i := 1) dX4_init_23 rfl rfl ?_
      show Gv (q + 2 + 3 * i) (d + 4) (3 * r + 2 + 1) (27 * r + 24 + 3) mX4_init 24 _ _ M1 P
      refine gv_newc (nc := 3 * r + 2) (ns := 27 * r + 24) (fs := [.null, .null, .int 0]) dX4_init_24 clXX4_9 dfX3 ?_
      refine gv_dup dX4_init_27 rfl ?_
      refine gv_invI (μ1 := mX3_init) (nc := 3 * r) (ns := 27 * r) (mc := 2) (ms := 24) dX4_init_28 sX4_17 okX3_init (by omega) (Nat.le_of_ble_eq_true rfl) ?_
      refine i_X3 (q := q + 2 + 3 * i) (mu_s _ _ _) (fun M2 ha2 hS => ⟨by omega, ?_⟩)
      have x0 : M2 q = .inr (4, [.ref (q + 1), .int 0]) := by rw [ha2 q (by omega), mu_n (by omega)]; exact h0
      have x1 : M2 (q + 1) = .inl (2, 2, .inr g) := by rw [ha2 (q + 1) (by omega), mu_n (by omega)]; exact h1
      obtain ⟨f2, g2, ⟨s0, s1, s2⟩, s3⟩ := id hS
      refine gv_aast (a := q + 1) (x := q + 2 + 3 * i) dX4_init_31 (by omega) (by omega) x1 s0 (by omega) (by decide) ?_
      refine gv_incN dX4_init_32 rfl (by decide) rfl ?_
      refine gv_goto 14 dX4_init_35 (by decide) ?_
      have e3 : q + 2 + 3 * (i + 1) = q + 2 + 3 * i + 3 := by omega
      have r3 := ih (i + 1) (mu M2 (q + 1) (.inl (2, 2, .inr (va_up g i (some (q + 2 + 3 * i)))))) (va_up g i (some (q + 2 + 3 * i))) (by omega) (fun k hk1 => by rw [mu_n (by omega), ha2 k (by omega), mu_n (by omega)]; exact ha k hk1) (by rw [mu_n (by omega)]; exact x0) (mu_s _ _ _) (fun j hj => by
          by_cases c : j = i
          · rw [c, va_up_self]
          · rw [va_up_ne _ _ c]; exact hg j (by omega)) (fun j hj => by
          by_cases c : j = i
          · rw [c]; exact kP_eq hS (mu_n (by omega)) (mu_n (by omega)) (mu_n (by omega))
          · exact kP_eq (hk j (by omega)) (by rw [mu_n (by omega), ha2 _ (by omega), mu_n (by omega)]) (by rw [mu_n (by omega), ha2 _ (by omega), mu_n (by omega)]) (by rw [mu_n (by omega), ha2 _ (by omega), mu_n (by omega)]))
      rw [e3] at r3
      exact r3
  refine gv_aload0 dX4_init_0 rfl ?_
  refine gv_obj dX4_init_1 obX4 ob_i ob_c (by omega) (Nat.le_of_ble_eq_true rfl) ?_
  refine gv_aload0 dX4_init_4 rfl ?_
  refine gv_iconst (v := nI 2) dX4_init_5 rfl ?_
  refine gv_newA (nc := 3 * 2) (ns := 27 * 2) (n := 2) dX4_init_6 cwXX4_9 (by decide) ?_
  refine gv_put (fs := [.null, .int 0]) (q := q) dX4_init_9 pfX4_11 rfl (by omega) (by first | assumption | (simp (disch := omega) only [mu_s, mu_n] <;> first | assumption | rfl)) (by decide) ?_
  refine gv_iconst (v := nI 0) dX4_init_12 rfl ?_
  refine gv_istore_n (i := 1) dX4_init_13 rfl (by decide) rfl ?_
  exact lp 2 0 _ (fun _ => none) rfl (fun k hk => by simp (disch := omega) only [mu_n]) (by first | assumption | (simp (disch := omega) only [mu_s, mu_n] <;> first | assumption | rfl)) (by first | assumption | (simp (disch := omega) only [mu_s, mu_n] <;> first | assumption | rfl)) (fun j hj => absurd hj (Nat.not_lt_zero j)) (fun j hj => absurd hj (Nat.not_lt_zero j))
theorem i_X8 {d : Nat} {M : mM} {P : Nat → mM → Prop} (hM : M 72 = .inr (8, [.int 0, .null, .int 0, .int 0, .int 0, .null, .null, .null, .null, .int 0, .null, .null, .null, .null, .int 0, .null, .null, .int 0, .null, .null, .long 0, .int 0, .int 0, .int 0, .int 0, .null, .null])) (hp : ∀ M1, ag M M1 72 88 → kM M1 s_0 → P 88 M1) : Gv 73 (d + 1) 15 622 mX8_init 0 [.ref 72] [] M P := by
  refine gv_aload0 dX8_init_0 rfl ?_
  refine gv_obj dX8_init_1 obX8 ob_i ob_c (by omega) (Nat.le_of_ble_eq_true rfl) ?_
  refine gv_aload0 dX8_init_4 rfl ?_
  refine gv_bipush (v := nI 40) dX8_init_5 rfl ?_
  refine gv_newI (N := 73) (nc := 14) (ns := 582) (n := 40) dX8_init_7 ac_i (by decide) ?_
  refine gv_put (N := 74) (fs := [.int 0, .null, .int 0, .int 0, .int 0, .null, .null, .null, .null, .int 0, .null, .null, .null, .null, .int 0, .null, .null, .int 0, .null, .null, .long 0, .int 0, .int 0, .int 0, .int 0, .null, .null]) (q := 72) dX8_init_9 pfX8_7 rfl (by omega) (by first | assumption | (simp (disch := omega) only [mu_s, mu_n] <;> first | assumption | rfl)) (Nat.le_of_ble_eq_true rfl) ?_
  refine gv_aload0 dX8_init_12 rfl ?_
  refine gv_bipush (v := nI 6) dX8_init_13 rfl ?_
  refine gv_newI (N := 74) (nc := 13) (ns := 576) (n := 6) dX8_init_15 ac_i (by decide) ?_
  refine gv_put (N := 75) (fs := [.int 0, .ref (73), .int 0, .int 0, .int 0, .null, .null, .null, .null, .int 0, .null, .null, .null, .null, .int 0, .null, .null, .int 0, .null, .null, .long 0, .int 0, .int 0, .int 0, .int 0, .null, .null]) (q := 72) dX8_init_17 pfX8_13 rfl (by omega) (by first | assumption | (simp (disch := omega) only [mu_s, mu_n] <;> first | assumption | rfl)) (Nat.le_of_ble_eq_true rfl) ?_
  refine gv_aload0 dX8_init_20 rfl ?_
  refine gv_bipush (v := nI 6) dX8_init_21 rfl ?_
  refine gv_newI (N := 75) (nc := 12) (ns := 570) (n := 6) dX8_init_23 ac_i (by decide) ?_
  refine gv_put (N := 76) (fs := [.int 0, .ref (73), .int 0, .int 0, .int 0, .ref (74), .null, .null, .null, .int 0, .null, .null, .null, .null, .int 0, .null, .null, .int 0, .null, .null, .long 0, .int 0, .int 0, .int 0, .int 0, .null, .null]) (q := 72) dX8_init_25 pfX8_16 rfl (by omega) (by first | assumption | (simp (disch := omega) only [mu_s, mu_n] <;> first | assumption | rfl)) (Nat.le_of_ble_eq_true rfl) ?_
  refine gv_aload0 dX8_init_28 rfl ?_
  refine gv_bipush (v := nI 6) dX8_init_29 rfl ?_
  refine gv_newI (N := 76) (nc := 11) (ns := 564) (n := 6) dX8_init_31 ac_i (by decide) ?_
  refine gv_put (N := 77) (fs := [.int 0, .ref (73), .int 0, .int 0, .int 0, .ref (74), .ref (75), .null, .null, .int 0, .null, .null, .null, .null, .int 0, .null, .null, .int 0, .null, .null, .long 0, .int 0, .int 0, .int 0, .int 0, .null, .null]) (q := 72) dX8_init_33 pfX8_19 rfl (by omega) (by first | assumption | (simp (disch := omega) only [mu_s, mu_n] <;> first | assumption | rfl)) (Nat.le_of_ble_eq_true rfl) ?_
  refine gv_aload0 dX8_init_36 rfl ?_
  refine gv_bipush (v := nI 6) dX8_init_37 rfl ?_
  refine gv_newI (N := 77) (nc := 10) (ns := 558) (n := 6) dX8_init_39 ac_i (by decide) ?_
  refine gv_put (N := 78) (fs := [.int 0, .ref (73), .int 0, .int 0, .int 0, .ref (74), .ref (75), .ref (76), .null, .int 0, .null, .null, .null, .null, .int 0, .null, .null, .int 0, .null, .null, .long 0, .int 0, .int 0, .int 0, .int 0, .null, .null]) (q := 72) dX8_init_41 pfX8_22 rfl (by omega) (by first | assumption | (simp (disch := omega) only [mu_s, mu_n] <;> first | assumption | rfl)) (Nat.le_of_ble_eq_true rfl) ?_
  refine gv_aload0 dX8_init_44 rfl ?_
  refine gv_bipush (v := nI 24) dX8_init_45 rfl ?_
  refine gv_newI (N := 78) (nc := 9) (ns := 534) (n := 24) dX8_init_47 ac_i (by decide) ?_
  refine gv_put (N := 79) (fs := [.int 0, .ref (73), .int 0, .int 0, .int 0, .ref (74), .ref (75), .ref (76), .ref (77), .int 0, .null, .null, .null, .null, .int 0, .null, .null, .int 0, .null, .null, .long 0, .int 0, .int 0, .int 0, .int 0, .null, .null]) (q := 72) dX8_init_49 pfX8_25 rfl (by omega) (by first | assumption | (simp (disch := omega) only [mu_s, mu_n] <;> first | assumption | rfl)) (Nat.le_of_ble_eq_true rfl) ?_
  refine gv_aload0 dX8_init_52 rfl ?_
  refine gv_bipush (v := nI 25) dX8_init_53 rfl ?_
  refine gv_newI (N := 79) (nc := 8) (ns := 509) (n := 25) dX8_init_55 ac_i (by decide) ?_
  refine gv_put (N := 80) (fs := [.int 0, .ref (73), .int 0, .int 0, .int 0, .ref (74), .ref (75), .ref (76), .ref (77), .int 0, .ref (78), .null, .null, .null, .int 0, .null, .null, .int 0, .null, .null, .long 0, .int 0, .int 0, .int 0, .int 0, .null, .null]) (q := 72) dX8_init_57 pfX8_28 rfl (by omega) (by first | assumption | (simp (disch := omega) only [mu_s, mu_n] <;> first | assumption | rfl)) (Nat.le_of_ble_eq_true rfl) ?_
  refine gv_aload0 dX8_init_60 rfl ?_
  refine gv_bipush (v := nI 25) dX8_init_61 rfl ?_
  refine gv_newI (N := 80) (nc := 7) (ns := 484) (n := 25) dX8_init_63 ac_i (by decide) ?_
  refine gv_put (N := 81) (fs := [.int 0, .ref (73), .int 0, .int 0, .int 0, .ref (74), .ref (75), .ref (76), .ref (77), .int 0, .ref (78), .ref (79), .null, .null, .int 0, .null, .null, .int 0, .null, .null, .long 0, .int 0, .int 0, .int 0, .int 0, .null, .null]) (q := 72) dX8_init_65 pfX8_31 rfl (by omega) (by first | assumption | (simp (disch := omega) only [mu_s, mu_n] <;> first | assumption | rfl)) (Nat.le_of_ble_eq_true rfl) ?_
  refine gv_aload0 dX8_init_68 rfl ?_
  refine gv_sipush (v := nI 350) dX8_init_69 rfl ?_
  refine gv_newI (N := 81) (nc := 6) (ns := 134) (n := 350) dX8_init_72 ac_i (by decide) ?_
  refine gv_put (N := 82) (fs := [.int 0, .ref (73), .int 0, .int 0, .int 0, .ref (74), .ref (75), .ref (76), .ref (77), .int 0, .ref (78), .ref (79), .ref (80), .null, .int 0, .null, .null, .int 0, .null, .null, .long 0, .int 0, .int 0, .int 0, .int 0, .null, .null]) (q := 72) dX8_init_74 pfX8_34 rfl (by omega) (by first | assumption | (simp (disch := omega) only [mu_s, mu_n] <;> first | assumption | rfl)) (Nat.le_of_ble_eq_true rfl) ?_
  refine gv_aload0 dX8_init_77 rfl ?_
  refine gv_bipush (v := nI 50) dX8_init_78 rfl ?_
  refine gv_newI (N := 82) (nc := 5) (ns := 84) (n := 50) dX8_init_80 ac_i (by decide) ?_
  refine gv_put (N := 83) (fs := [.int 0, .ref (73), .int 0, .int 0, .int 0, .ref (74), .ref (75), .ref (76), .ref (77), .int 0, .ref (78), .ref (79), .ref (80), .ref (81), .int 0, .null, .null, .int 0, .null, .null, .long 0, .int 0, .int 0, .int 0, .int 0, .null, .null]) (q := 72) dX8_init_82 pfX8_37 rfl (by omega) (by first | assumption | (simp (disch := omega) only [mu_s, mu_n] <;> first | assumption | rfl)) (Nat.le_of_ble_eq_true rfl) ?_
  refine gv_aload0 dX8_init_85 rfl ?_
  refine gv_iconst (v := nI 2) dX8_init_86 rfl ?_
  refine gv_newZ (N := 83) (nc := 4) (ns := 82) (n := 2) dX8_init_87 ac_z (by decide) ?_
  refine gv_put (N := 84) (fs := [.int 0, .ref (73), .int 0, .int 0, .int 0, .ref (74), .ref (75), .ref (76), .ref (77), .int 0, .ref (78), .ref (79), .ref (80), .ref (81), .int 0, .ref (82), .null, .int 0, .null, .null, .long 0, .int 0, .int 0, .int 0, .int 0, .null, .null]) (q := 72) dX8_init_89 pfX8_40 rfl (by omega) (by first | assumption | (simp (disch := omega) only [mu_s, mu_n] <;> first | assumption | rfl)) (Nat.le_of_ble_eq_true rfl) ?_
  refine gv_aload0 dX8_init_92 rfl ?_
  refine gv_bipush (v := nI 6) dX8_init_93 rfl ?_
  refine gv_newI (N := 84) (nc := 3) (ns := 76) (n := 6) dX8_init_95 ac_i (by decide) ?_
  refine gv_put (N := 85) (fs := [.int 0, .ref (73), .int 0, .int 0, .int 0, .ref (74), .ref (75), .ref (76), .ref (77), .int 0, .ref (78), .ref (79), .ref (80), .ref (81), .int 0, .ref (82), .ref (83), .int 0, .null, .null, .long 0, .int 0, .int 0, .int 0, .int 0, .null, .null]) (q := 72) dX8_init_97 pfX8_44 rfl (by omega) (by first | assumption | (simp (disch := omega) only [mu_s, mu_n] <;> first | assumption | rfl)) (Nat.le_of_ble_eq_true rfl) ?_
  refine gv_aload0 dX8_init_100 rfl ?_
  refine gv_bipush (v := nI 6) dX8_init_101 rfl ?_
  refine gv_newI (N := 85) (nc := 2) (ns := 70) (n := 6) dX8_init_103 ac_i (by decide) ?_
  refine gv_put (N := 86) (fs := [.int 0, .ref (73), .int 0, .int 0, .int 0, .ref (74), .ref (75), .ref (76), .ref (77), .int 0, .ref (78), .ref (79), .ref (80), .ref (81), .int 0, .ref (82), .ref (83), .int 0, .ref (84), .null, .long 0, .int 0, .int 0, .int 0, .int 0, .null, .null]) (q := 72) dX8_init_105 pfX8_47 rfl (by omega) (by first | assumption | (simp (disch := omega) only [mu_s, mu_n] <;> first | assumption | rfl)) (Nat.le_of_ble_eq_true rfl) ?_
  refine gv_aload0 dX8_init_108 rfl ?_
  refine gv_bipush (v := nI 64) dX8_init_109 rfl ?_
  refine gv_newI (N := 86) (nc := 1) (ns := 6) (n := 64) dX8_init_111 ac_i (by decide) ?_
  refine gv_put (N := 87) (fs := [.int 0, .ref (73), .int 0, .int 0, .int 0, .ref (74), .ref (75), .ref (76), .ref (77), .int 0, .ref (78), .ref (79), .ref (80), .ref (81), .int 0, .ref (82), .ref (83), .int 0, .ref (84), .ref (85), .long 0, .int 0, .int 0, .int 0, .int 0, .null, .null]) (q := 72) dX8_init_113 pfX8_50 rfl (by omega) (by first | assumption | (simp (disch := omega) only [mu_s, mu_n] <;> first | assumption | rfl)) (Nat.le_of_ble_eq_true rfl) ?_
  refine gv_aload0 dX8_init_116 rfl ?_
  refine gv_bipush (v := nI 6) dX8_init_117 rfl ?_
  refine gv_newI (N := 87) (nc := 0) (ns := 0) (n := 6) dX8_init_119 ac_i (by decide) ?_
  refine gv_put (N := 88) (fs := [.int 0, .ref (73), .int 0, .int 0, .int 0, .ref (74), .ref (75), .ref (76), .ref (77), .int 0, .ref (78), .ref (79), .ref (80), .ref (81), .int 0, .ref (82), .ref (83), .int 0, .ref (84), .ref (85), .long 0, .int 0, .int 0, .int 0, .int 0, .ref (86), .null]) (q := 72) dX8_init_121 pfX8_53 rfl (by omega) (by first | assumption | (simp (disch := omega) only [mu_s, mu_n] <;> first | assumption | rfl)) (Nat.le_of_ble_eq_true rfl) ?_
  refine gv_aload0 (N := 88) dX8_init_124 rfl ?_
  refine gv_getfield (N := 88) (fs := [.int 0, .ref (73), .int 0, .int 0, .int 0, .ref (74), .ref (75), .ref (76), .ref (77), .int 0, .ref (78), .ref (79), .ref (80), .ref (81), .int 0, .ref (82), .ref (83), .int 0, .ref (84), .ref (85), .long 0, .int 0, .int 0, .int 0, .int 0, .ref (86), .ref (87)]) (v := .ref 79) dX8_init_125 fX8_28 (by omega) (by first | assumption | (simp (disch := omega) only [mu_s, mu_n] <;> first | assumption | rfl)) rfl ?_
  refine gv_wf (N := 88) (fun hw => ?_)
  refine gv_S1 (N := 88) (μ1 := mX8_clean) dX8_init_128 sX8_56 okX8_clean (Nat.le_of_ble_eq_true rfl) (Nat.le_of_ble_eq_true rfl) ?_
  refine c_mClean (p := pz) (by omega) ⟨_, (by first | assumption | (simp (disch := omega) only [mu_s, mu_n] <;> first | assumption | rfl)), fun _ _ => rfl, fun _ _ => rfl, rfl⟩ (fun M1 ha hG => ⟨rfl, wfM_kG hw ha hG, ?_⟩)
  refine gv_ret0 (N := 88) dX8_init_131 rfl (hp _ (fun k hk => by rw [ha k (by omega)]; simp (disch := omega) only [mu_n]) ?_)
  have h72 : M1 72 = .inr (8, [.int 0, .ref (73), .int 0, .int 0, .int 0, .ref (74), .ref (75), .ref (76), .ref (77), .int 0, .ref (78), .ref (79), .ref (80), .ref (81), .int 0, .ref (82), .ref (83), .int 0, .ref (84), .ref (85), .long 0, .int 0, .int 0, .int 0, .int 0, .ref (86), .ref (87)]) := by rw [ha 72 (by omega)]; exact (by first | assumption | (simp (disch := omega) only [mu_s, mu_n] <;> first | assumption | rfl))
  have h73 : M1 73 = .inl (0, 40, .inl (fun _ => 0)) := by rw [ha 73 (by omega)]; exact (by first | assumption | (simp (disch := omega) only [mu_s, mu_n] <;> first | assumption | rfl))
  have h74 : M1 74 = .inl (0, 6, .inl (fun _ => 0)) := by rw [ha 74 (by omega)]; exact (by first | assumption | (simp (disch := omega) only [mu_s, mu_n] <;> first | assumption | rfl))
  have h75 : M1 75 = .inl (0, 6, .inl (fun _ => 0)) := by rw [ha 75 (by omega)]; exact (by first | assumption | (simp (disch := omega) only [mu_s, mu_n] <;> first | assumption | rfl))
  have h76 : M1 76 = .inl (0, 6, .inl (fun _ => 0)) := by rw [ha 76 (by omega)]; exact (by first | assumption | (simp (disch := omega) only [mu_s, mu_n] <;> first | assumption | rfl))
  have h77 : M1 77 = .inl (0, 6, .inl (fun _ => 0)) := by rw [ha 77 (by omega)]; exact (by first | assumption | (simp (disch := omega) only [mu_s, mu_n] <;> first | assumption | rfl))
  have h78 : M1 78 = .inl (0, 24, .inl (fun _ => 0)) := by rw [ha 78 (by omega)]; exact (by first | assumption | (simp (disch := omega) only [mu_s, mu_n] <;> first | assumption | rfl))
  have h80 : M1 80 = .inl (0, 25, .inl (fun _ => 0)) := by rw [ha 80 (by omega)]; exact (by first | assumption | (simp (disch := omega) only [mu_s, mu_n] <;> first | assumption | rfl))
  have h81 : M1 81 = .inl (0, 350, .inl (fun _ => 0)) := by rw [ha 81 (by omega)]; exact (by first | assumption | (simp (disch := omega) only [mu_s, mu_n] <;> first | assumption | rfl))
  have h82 : M1 82 = .inl (0, 50, .inl (fun _ => 0)) := by rw [ha 82 (by omega)]; exact (by first | assumption | (simp (disch := omega) only [mu_s, mu_n] <;> first | assumption | rfl))
  have h83 : M1 83 = .inl (1, 2, .inl (fun _ => 0)) := by rw [ha 83 (by omega)]; exact (by first | assumption | (simp (disch := omega) only [mu_s, mu_n] <;> first | assumption | rfl))
  have h84 : M1 84 = .inl (0, 6, .inl (fun _ => 0)) := by rw [ha 84 (by omega)]; exact (by first | assumption | (simp (disch := omega) only [mu_s, mu_n] <;> first | assumption | rfl))
  have h85 : M1 85 = .inl (0, 6, .inl (fun _ => 0)) := by rw [ha 85 (by omega)]; exact (by first | assumption | (simp (disch := omega) only [mu_s, mu_n] <;> first | assumption | rfl))
  have h86 : M1 86 = .inl (0, 64, .inl (fun _ => 0)) := by rw [ha 86 (by omega)]; exact (by first | assumption | (simp (disch := omega) only [mu_s, mu_n] <;> first | assumption | rfl))
  have h87 : M1 87 = .inl (0, 6, .inl (fun _ => 0)) := by rw [ha 87 (by omega)]; exact (by first | assumption | (simp (disch := omega) only [mu_s, mu_n] <;> first | assumption | rfl))
  exact ⟨⟨fun _ => 0, h72⟩, ⟨_, h73, fun _ _ => rfl⟩, ⟨⟨_, h74, fun _ _ => rfl⟩, ⟨_, h75, fun _ _ => rfl⟩, ⟨_, h76, fun _ _ => rfl⟩, ⟨_, h77, fun _ _ => rfl⟩⟩, hG, ⟨pz, _, h80, fun _ _ => rfl, fun _ _ => rfl, rfl⟩, ⟨_, h81, fun i p z => by cases z⟩, ⟨_, _, h82, h83, fun _ _ => rfl, fun i _ p z => by cases z⟩, ⟨⟨_, h84, fun _ _ => rfl⟩, ⟨_, h85, fun _ _ => rfl⟩⟩, ⟨_, h78⟩, ⟨_, h86⟩, ⟨_, h87⟩⟩
