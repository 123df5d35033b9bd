theorem i_X7 {d : Nat} {M : mM} {P : Nat → mM → Prop} (hM : M 0 = .inr (7, [.null, .null, .null, .null, .null, .null, .null, .null, .long 0])) (hp : ∀ M1, kC M1 s_0 → P 72 M1) : Gv 1 (d + 5) 71 665 mX7_init 0 [.ref 0] [] M P := by
  refine gv_aload0 dX7_init_0 rfl ?_
  refine gv_obj dX7_init_1 obX7 ob_i ob_c (by omega) (Nat.le_of_ble_eq_true rfl) ?_
  refine gv_aload0 (N := 1) dX7_init_4 rfl ?_
  refine gv_newc (N := 1) (nc := 70) (ns := 663) (n := 2) (fs := [.null, .int 0]) dX7_init_5 clXX7_7 dfX5 ?_
  refine gv_dup (N := 2) dX7_init_8 rfl ?_
  refine gv_invI (N := 2) (μ1 := mX5_init) (nc := 69) (ns := 623) (mc := 1) (ms := 40) dX7_init_9 sX7_9 okX5_init (by omega) (Nat.le_of_ble_eq_true rfl) ?_
  refine i_X5 (q := 1) (mu_s _ _ _) (fun N0 ha x0 x1 => ⟨by omega, ?_⟩)
  have z0 : N0 0 = .inr (7, [.null, .null, .null, .null, .null, .null, .null, .null, .long 0]) := by rw [ha 0 (by omega), mu_n (by omega)]; exact hM
  refine gv_put (N := 3) (fs := [.null, .null, .null, .null, .null, .null, .null, .null, .long 0]) (q := 0) (x := 1) dX7_init_12 pfX7_10 rfl (by omega) z0 (Nat.le_of_ble_eq_true rfl) ?_
  have t0 : mu N0 0 (.inr (7, [.ref 1, .null, .null, .null, .null, .null, .null, .null, .long 0])) 0 = .inr (7, [.ref 1, .null, .null, .null, .null, .null, .null, .null, .long 0]) := mu_s _ _ _
  show Gv 3 (d + 5) 69 623 mX7_init 15 _ _ (mu N0 0 (.inr (7, [.ref 1, .null, .null, .null, .null, .null, .null, .null, .long 0]))) P
  have b0 : ∀ j, 0 < j → mu N0 0 (.inr (7, [.ref 1, .null, .null, .null, .null, .null, .null, .null, .long 0])) j = N0 j := fun j h => mu_n (by omega)
  generalize mu N0 0 (.inr (7, [.ref 1, .null, .null, .null, .null, .null, .null, .null, .long 0])) = M0 at t0 b0 ⊢
  have a0 : ∀ j, 0 < j → j < 1 → M0 j = M j := fun j h1 h2 => by rw [b0 j h1, ha j h2, mu_n (by omega)]
  have x0_0 := x0
  have x1_0 := x1
  clear ha
  refine gv_aload0 (N := 3) dX7_init_15 rfl ?_
  refine gv_newc (N := 3) (nc := 68) (ns := 618) (n := 5) (fs := [.null, .null, .null, .null, .int 0]) dX7_init_16 clXX7_16 dfX1 ?_
  refine gv_dup (N := 4) dX7_init_19 rfl ?_
  refine gv_invI (N := 4) (μ1 := mX1_init) (nc := 64) (ns := 594) (mc := 4) (ms := 24) dX7_init_20 sX7_18 okX1_init (by omega) (Nat.le_of_ble_eq_true rfl) ?_
  refine i_X1 (q := 3) (mu_s _ _ _) (fun N1 ha x0 x1 x2 x3 x4 => ⟨by omega, ?_⟩)
  have z1 : N1 0 = .inr (7, [.ref 1, .null, .null, .null, .null, .null, .null, .null, .long 0]) := by rw [ha 0 (by omega), mu_n (by omega)]; exact t0
  refine gv_put (N := 8) (fs := [.ref 1, .null, .null, .null, .null, .null, .null, .null, .long 0]) (q := 0) (x := 3) dX7_init_23 pfX7_19 rfl (by omega) z1 (Nat.le_of_ble_eq_true rfl) ?_
  have t1 : mu N1 0 (.inr (7, [.ref 1, .ref 3, .null, .null, .null, .null, .null, .null, .long 0])) 0 = .inr (7, [.ref 1, .ref 3, .null, .null, .null, .null, .null, .null, .long 0]) := mu_s _ _ _
  show Gv 8 (d + 5) 64 594 mX7_init 26 _ _ (mu N1 0 (.inr (7, [.ref 1, .ref 3, .null, .null, .null, .null, .null, .null, .long 0]))) P
  have b1 : ∀ j, 0 < j → mu N1 0 (.inr (7, [.ref 1, .ref 3, .null, .null, .null, .null, .null, .null, .long 0])) j = N1 j := fun j h => mu_n (by omega)
  generalize mu N1 0 (.inr (7, [.ref 1, .ref 3, .null, .null, .null, .null, .null, .null, .long 0])) = M1 at t1 b1 ⊢
  have a1 : ∀ j, 0 < j → j < 3 → M1 j = M0 j := fun j h1 h2 => by rw [b1 j h1, ha j h2, mu_n (by omega)]
  have x0_1 := x0
  have x1_1 := x1
  have x2_1 := x2
  have x3_1 := x3
  have x4_1 := x4
  clear ha
  refine gv_aload0 (N := 8) dX7_init_26 rfl ?_
  refine gv_newc (N := 8) (nc := 63) (ns := 591) (n := 3) (fs := [.null, .null, .int 0]) dX7_init_27 clXX7_23 dfX3 ?_
  refine gv_dup (N := 9) dX7_init_30 rfl ?_
  refine gv_invI (N := 9) (μ1 := mX3_init) (nc := 61) (ns := 567) (mc := 2) (ms := 24) dX7_init_31 sX7_25 okX3_init (by omega) (Nat.le_of_ble_eq_true rfl) ?_
  refine i_X3 (q := 8) (mu_s _ _ _) (fun N2 ha x0 => ⟨by omega, ?_⟩)
  have z2 : N2 0 = .inr (7, [.ref 1, .ref 3, .null, .null, .null, .null, .null, .null, .long 0]) := by rw [ha 0 (by omega), mu_n (by omega)]; exact t1
  refine gv_put (N := 11) (fs := [.ref 1, .ref 3, .null, .null, .null, .null, .null, .null, .long 0]) (q := 0) (x := 8) dX7_init_34 pfX7_26 rfl (by omega) z2 (Nat.le_of_ble_eq_true rfl) ?_
  have t2 : mu N2 0 (.inr (7, [.ref 1, .ref 3, .ref 8, .null, .null, .null, .null, .null, .long 0])) 0 = .inr (7, [.ref 1, .ref 3, .ref 8, .null, .null, .null, .null, .null, .long 0]) := mu_s _ _ _
  show Gv 11 (d + 5) 61 567 mX7_init 37 _ _ (mu N2 0 (.inr (7, [.ref 1, .ref 3, .ref 8, .null, .null, .null, .null, .null, .long 0]))) P
  have b2 : ∀ j, 0 < j → mu N2 0 (.inr (7, [.ref 1, .ref 3, .ref 8, .null, .null, .null, .null, .null, .long 0])) j = N2 j := fun j h => mu_n (by omega)
  generalize mu N2 0 (.inr (7, [.ref 1, .ref 3, .ref 8, .null, .null, .null, .null, .null, .long 0])) = M2 at t2 b2 ⊢
  have a2 : ∀ j, 0 < j → j < 8 → M2 j = M1 j := fun j h1 h2 => by rw [b2 j h1, ha j h2, mu_n (by omega)]
  have x0_2 := x0
  clear ha
  refine gv_aload0 (N := 11) dX7_init_37 rfl ?_
  refine gv_newc (N := 11) (nc := 60) (ns := 564) (n := 3) (fs := [.null, .null, .int 0]) dX7_init_38 clXX7_23 dfX3 ?_
  refine gv_dup (N := 12) dX7_init_41 rfl ?_
  refine gv_invI (N := 12) (μ1 := mX3_init) (nc := 58) (ns := 540) (mc := 2) (ms := 24) dX7_init_42 sX7_25 okX3_init (by omega) (Nat.le_of_ble_eq_true rfl) ?_
  refine i_X3 (q := 11) (mu_s _ _ _) (fun N3 ha x0 => ⟨by omega, ?_⟩)
  have z3 : N3 0 = .inr (7, [.ref 1, .ref 3, .ref 8, .null, .null, .null, .null, .null, .long 0]) := by rw [ha 0 (by omega), mu_n (by omega)]; exact t2
  refine gv_put (N := 14) (fs := [.ref 1, .ref 3, .ref 8, .null, .null, .null, .null, .null, .long 0]) (q := 0) (x := 11) dX7_init_45 pfX7_30 rfl (by omega) z3 (Nat.le_of_ble_eq_true rfl) ?_
  have t3 : mu N3 0 (.inr (7, [.ref 1, .ref 3, .ref 8, .ref 11, .null, .null, .null, .null, .long 0])) 0 = .inr (7, [.ref 1, .ref 3, .ref 8, .ref 11, .null, .null, .null, .null, .long 0]) := mu_s _ _ _
  show Gv 14 (d + 5) 58 540 mX7_init 48 _ _ (mu N3 0 (.inr (7, [.ref 1, .ref 3, .ref 8, .ref 11, .null, .null, .null, .null, .long 0]))) P
  have b3 : ∀ j, 0 < j → mu N3 0 (.inr (7, [.ref 1, .ref 3, .ref 8, .ref 11, .null, .null, .null, .null, .long 0])) j = N3 j := fun j h => mu_n (by omega)
  generalize mu N3 0 (.inr (7, [.ref 1, .ref 3, .ref 8, .ref 11, .null, .null, .null, .null, .long 0])) = M3 at t3 b3 ⊢
  have a3 : ∀ j, 0 < j → j < 11 → M3 j = M2 j := fun j h1 h2 => by rw [b3 j h1, ha j h2, mu_n (by omega)]
  have x0_3 := x0
  clear ha
  refine gv_aload0 (N := 14) dX7_init_48 rfl ?_
  refine gv_newc (N := 14) (nc := 57) (ns := 537) (n := 3) (fs := [.null, .int 0, .int 0]) dX7_init_49 clXX7_33 dfX0 ?_
  refine gv_dup (N := 15) dX7_init_52 rfl ?_
  refine gv_invI (N := 15) (μ1 := mX0_init) (nc := 14) (ns := 145) (mc := 43) (ms := 392) dX7_init_53 sX7_35 okX0_init (by omega) (Nat.le_of_ble_eq_true rfl) ?_
  refine i_X0 (q := 14) (mu_s _ _ _) (fun N4 g0 ha x0 x1 x2 x3 => ⟨by omega, ?_⟩)
  have z4 : N4 0 = .inr (7, [.ref 1, .ref 3, .ref 8, .ref 11, .null, .null, .null, .null, .long 0]) := by rw [ha 0 (by omega), mu_n (by omega)]; exact t3
  refine gv_put (N := 58) (fs := [.ref 1, .ref 3, .ref 8, .ref 11, .null, .null, .null, .null, .long 0]) (q := 0) (x := 14) dX7_init_56 pfX7_36 rfl (by omega) z4 (Nat.le_of_ble_eq_true rfl) ?_
  have t4 : mu N4 0 (.inr (7, [.ref 1, .ref 3, .ref 8, .ref 11, .ref 14, .null, .null, .null, .long 0])) 0 = .inr (7, [.ref 1, .ref 3, .ref 8, .ref 11, .ref 14, .null, .null, .null, .long 0]) := mu_s _ _ _
  show Gv 58 (d + 5) 14 145 mX7_init 59 _ _ (mu N4 0 (.inr (7, [.ref 1, .ref 3, .ref 8, .ref 11, .ref 14, .null, .null, .null, .long 0]))) P
  have b4 : ∀ j, 0 < j → mu N4 0 (.inr (7, [.ref 1, .ref 3, .ref 8, .ref 11, .ref 14, .null, .null, .null, .long 0])) j = N4 j := fun j h => mu_n (by omega)
  generalize mu N4 0 (.inr (7, [.ref 1, .ref 3, .ref 8, .ref 11, .ref 14, .null, .null, .null, .long 0])) = M4 at t4 b4 ⊢
  have a4 : ∀ j, 0 < j → j < 14 → M4 j = M3 j := fun j h1 h2 => by rw [b4 j h1, ha j h2, mu_n (by omega)]
  have x0_4 := x0
  have x1_4 := x1
  have x2_4 := x2
  have x3_4 := x3
  clear ha
  refine gv_aload0 (N := 58) dX7_init_59 rfl ?_
  refine gv_newc (N := 58) (nc := 13) (ns := 141) (n := 4) (fs := [.null, .null, .null, .int 0]) dX7_init_60 clXX7_40 dfX2 ?_
  refine gv_dup (N := 59) dX7_init_63 rfl ?_
  refine gv_invI (N := 59) (μ1 := mX2_init) (nc := 10) (ns := 65) (mc := 3) (ms := 76) dX7_init_64 sX7_42 okX2_init (by omega) (Nat.le_of_ble_eq_true rfl) ?_
  refine i_X2 (q := 58) (mu_s _ _ _) (fun N5 ha x0 x1 x2 x3 => ⟨by omega, ?_⟩)
  have z5 : N5 0 = .inr (7, [.ref 1, .ref 3, .ref 8, .ref 11, .ref 14, .null, .null, .null, .long 0]) := by rw [ha 0 (by omega), mu_n (by omega)]; exact t4
  refine gv_put (N := 62) (fs := [.ref 1, .ref 3, .ref 8, .ref 11, .ref 14, .null, .null, .null, .long 0]) (q := 0) (x := 58) dX7_init_67 pfX7_43 rfl (by omega) z5 (Nat.le_of_ble_eq_true rfl) ?_
  have t5 : mu N5 0 (.inr (7, [.ref 1, .ref 3, .ref 8, .ref 11, .ref 14, .ref 58, .null, .null, .long 0])) 0 = .inr (7, [.ref 1, .ref 3, .ref 8, .ref 11, .ref 14, .ref 58, .null, .null, .long 0]) := mu_s _ _ _
  show Gv 62 (d + 5) 10 65 mX7_init 70 _ _ (mu N5 0 (.inr (7, [.ref 1, .ref 3, .ref 8, .ref 11, .ref 14, .ref 58, .null, .null, .long 0]))) P
  have b5 : ∀ j, 0 < j → mu N5 0 (.inr (7, [.ref 1, .ref 3, .ref 8, .ref 11, .ref 14, .ref 58, .null, .null, .long 0])) j = N5 j := fun j h => mu_n (by omega)
  generalize mu N5 0 (.inr (7, [.ref 1, .ref 3, .ref 8, .ref 11, .ref 14, .ref 58, .null, .null, .long 0])) = M5 at t5 b5 ⊢
  have a5 : ∀ j, 0 < j → j < 58 → M5 j = M4 j := fun j h1 h2 => by rw [b5 j h1, ha j h2, mu_n (by omega)]
  have x0_5 := x0
  have x1_5 := x1
  have x2_5 := x2
  have x3_5 := x3
  clear ha
  refine gv_aload0 (N := 62) dX7_init_70 rfl ?_
  refine gv_newc (N := 62) (nc := 9) (ns := 63) (n := 2) (fs := [.null, .int 0]) dX7_init_71 clXX7_47 dfX4 ?_
  refine gv_dup (N := 63) dX7_init_74 rfl ?_
  refine gv_invI (N := 63) (μ1 := mX4_init) (nc := 2) (ns := 7) (mc := 7) (ms := 56) dX7_init_75 sX7_49 okX4_init (by omega) (Nat.le_of_ble_eq_true rfl) ?_
  refine i_X4 (q := 62) (mu_s _ _ _) (fun N6 g4 ha x0 x1 x2 x3 => ⟨by omega, ?_⟩)
  have z6 : N6 0 = .inr (7, [.ref 1, .ref 3, .ref 8, .ref 11, .ref 14, .ref 58, .null, .null, .long 0]) := by rw [ha 0 (by omega), mu_n (by omega)]; exact t5
  refine gv_put (N := 70) (fs := [.ref 1, .ref 3, .ref 8, .ref 11, .ref 14, .ref 58, .null, .null, .long 0]) (q := 0) (x := 62) dX7_init_78 pfX7_50 rfl (by omega) z6 (Nat.le_of_ble_eq_true rfl) ?_
  have t6 : mu N6 0 (.inr (7, [.ref 1, .ref 3, .ref 8, .ref 11, .ref 14, .ref 58, .ref 62, .null, .long 0])) 0 = .inr (7, [.ref 1, .ref 3, .ref 8, .ref 11, .ref 14, .ref 58, .ref 62, .null, .long 0]) := mu_s _ _ _
  show Gv 70 (d + 5) 2 7 mX7_init 81 _ _ (mu N6 0 (.inr (7, [.ref 1, .ref 3, .ref 8, .ref 11, .ref 14, .ref 58, .ref 62, .null, .long 0]))) P
  have b6 : ∀ j, 0 < j → mu N6 0 (.inr (7, [.ref 1, .ref 3, .ref 8, .ref 11, .ref 14, .ref 58, .ref 62, .null, .long 0])) j = N6 j := fun j h => mu_n (by omega)
  generalize mu N6 0 (.inr (7, [.ref 1, .ref 3, .ref 8, .ref 11, .ref 14, .ref 58, .ref 62, .null, .long 0])) = M6 at t6 b6 ⊢
  have a6 : ∀ j, 0 < j → j < 62 → M6 j = M5 j := fun j h1 h2 => by rw [b6 j h1, ha j h2, mu_n (by omega)]
  have x0_6 := x0
  have x1_6 := x1
  have x2_6 := x2
  have x3_6 := x3
  clear ha
  refine gv_aload0 (N := 70) dX7_init_81 rfl ?_
  refine gv_newc (N := 70) (nc := 1) (ns := 6) (n := 1) (fs := [.null]) dX7_init_82 clXX7_54 dfX6 ?_
  refine gv_dup (N := 71) dX7_init_85 rfl ?_
  refine gv_invI (N := 71) (μ1 := mX6_init) (nc := 0) (ns := 0) (mc := 1) (ms := 6) dX7_init_86 sX7_56 okX6_init (by omega) (Nat.le_of_ble_eq_true rfl) ?_
  refine i_X6 (q := 70) (mu_s _ _ _) (fun N7 ha x0 x1 => ⟨by omega, ?_⟩)
  have z7 : N7 0 = .inr (7, [.ref 1, .ref 3, .ref 8, .ref 11, .ref 14, .ref 58, .ref 62, .null, .long 0]) := by rw [ha 0 (by omega), mu_n (by omega)]; exact t6
  refine gv_put (N := 72) (fs := [.ref 1, .ref 3, .ref 8, .ref 11, .ref 14, .ref 58, .ref 62, .null, .long 0]) (q := 0) (x := 70) dX7_init_89 pfX7_57 rfl (by omega) z7 (Nat.le_of_ble_eq_true rfl) ?_
  have t7 : mu N7 0 (.inr (7, [.ref 1, .ref 3, .ref 8, .ref 11, .ref 14, .ref 58, .ref 62, .ref 70, .long 0])) 0 = .inr (7, [.ref 1, .ref 3, .ref 8, .ref 11, .ref 14, .ref 58, .ref 62, .ref 70, .long 0]) := mu_s _ _ _
  show Gv 72 (d + 5) 0 0 mX7_init 92 _ _ (mu N7 0 (.inr (7, [.ref 1, .ref 3, .ref 8, .ref 11, .ref 14, .ref 58, .ref 62, .ref 70, .long 0]))) P
  have b7 : ∀ j, 0 < j → mu N7 0 (.inr (7, [.ref 1, .ref 3, .ref 8, .ref 11, .ref 14, .ref 58, .ref 62, .ref 70, .long 0])) j = N7 j := fun j h => mu_n (by omega)
  generalize mu N7 0 (.inr (7, [.ref 1, .ref 3, .ref 8, .ref 11, .ref 14, .ref 58, .ref 62, .ref 70, .long 0])) = M7 at t7 b7 ⊢
  have a7 : ∀ j, 0 < j → j < 70 → M7 j = M6 j := fun j h1 h2 => by rw [b7 j h1, ha j h2, mu_n (by omega)]
  have x0_7 := x0
  have x1_7 := x1
  clear ha
  refine gv_aload0 (N := 72) dX7_init_92 rfl ?_
  refine gv_lconst (N := 72) (v := 0) dX7_init_93 rfl ?_
  refine gv_putJ (N := 72) (fs := [.ref 1, .ref 3, .ref 8, .ref 11, .ref 14, .ref 58, .ref 62, .ref 70, .long 0]) (q := 0) dX7_init_94 fwX7_61 (by omega) t7 (Nat.le_of_ble_eq_true rfl) ?_
  refine gv_ret0 (N := 72) dX7_init_97 rfl (hp _ ?_)
  have f0 : mu M7 0 (.inr (7, [.ref 1, .ref 3, .ref 8, .ref 11, .ref 14, .ref 58, .ref 62, .ref 70, .long 0])) 0 = .inr (7, [.ref 1, .ref 3, .ref 8, .ref 11, .ref 14, .ref 58, .ref 62, .ref 70, .long 0]) := mu_s _ _ _
  show kC (mu M7 0 (.inr (7, [.ref 1, .ref 3, .ref 8, .ref 11, .ref 14, .ref 58, .ref 62, .ref 70, .long 0]))) s_0
  have c7 : ∀ j, 0 < j → mu M7 0 (.inr (7, [.ref 1, .ref 3, .ref 8, .ref 11, .ref 14, .ref 58, .ref 62, .ref 70, .long 0])) j = M7 j := fun j h => mu_n (by omega)
  generalize mu M7 0 (.inr (7, [.ref 1, .ref 3, .ref 8, .ref 11, .ref 14, .ref 58, .ref 62, .ref 70, .long 0])) = MF at f0 c7 ⊢
  have c6 : ∀ j, 0 < j → j < 70 → MF j = M6 j := fun j h1 h2 => (c7 j h1).trans (a7 j h1 h2)
  have c5 : ∀ j, 0 < j → j < 62 → MF j = M5 j := fun j h1 h2 => (c6 j h1 (by omega)).trans (a6 j h1 h2)
  have c4 : ∀ j, 0 < j → j < 58 → MF j = M4 j := fun j h1 h2 => (c5 j h1 (by omega)).trans (a5 j h1 h2)
  have c3 : ∀ j, 0 < j → j < 14 → MF j = M3 j := fun j h1 h2 => (c4 j h1 (by omega)).trans (a4 j h1 h2)
  have c2 : ∀ j, 0 < j → j < 11 → MF j = M2 j := fun j h1 h2 => (c3 j h1 (by omega)).trans (a3 j h1 h2)
  have c1 : ∀ j, 0 < j → j < 8 → MF j = M1 j := fun j h1 h2 => (c2 j h1 (by omega)).trans (a2 j h1 h2)
  have c0 : ∀ j, 0 < j → j < 3 → MF j = M0 j := fun j h1 h2 => (c1 j h1 (by omega)).trans (a1 j h1 h2)
  have y1 : MF 1 = _ := ((c0 (1) (by omega) (by omega)).trans (b0 (1) (by omega))).trans x0_0
  have y2 : MF 2 = _ := ((c0 (2) (by omega) (by omega)).trans (b0 (2) (by omega))).trans x1_0
  have y3 : MF 3 = _ := ((c1 (3) (by omega) (by omega)).trans (b1 (3) (by omega))).trans x0_1
  have y4 : MF 4 = _ := ((c1 (4) (by omega) (by omega)).trans (b1 (4) (by omega))).trans x1_1
  have y5 : MF 5 = _ := ((c1 (5) (by omega) (by omega)).trans (b1 (5) (by omega))).trans x2_1
  have y6 : MF 6 = _ := ((c1 (6) (by omega) (by omega)).trans (b1 (6) (by omega))).trans x3_1
  have y7 : MF 7 = _ := ((c1 (7) (by omega) (by omega)).trans (b1 (7) (by omega))).trans x4_1
  have y8 : kP MF 8 (pgNew 0) := kP_eq x0_2 ((c2 (8) (by omega) (by omega)).trans (b2 (8) (by omega))) ((c2 (9) (by omega) (by omega)).trans (b2 (9) (by omega))) ((c2 (10) (by omega) (by omega)).trans (b2 (10) (by omega)))
  have y11 : kP MF 11 (pgNew 0) := kP_eq x0_3 ((c3 (11) (by omega) (by omega)).trans (b3 (11) (by omega))) ((c3 (12) (by omega) (by omega)).trans (b3 (12) (by omega))) ((c3 (13) (by omega) (by omega)).trans (b3 (13) (by omega)))
  have y14 : MF 14 = _ := ((c4 (14) (by omega) (by omega)).trans (b4 (14) (by omega))).trans x0_4
  have y15 : MF 15 = _ := ((c4 (15) (by omega) (by omega)).trans (b4 (15) (by omega))).trans x1_4
  have y16 : ∀ j, j < 14 → kP MF (16 + 3 * j) (pgNew 0) := fun j hj => kP_eq (x3_4 j hj) ((c4 (16 + 3 * j) (by omega) (by omega)).trans (b4 (16 + 3 * j) (by omega))) ((c4 (16 + 3 * j + 1) (by omega) (by omega)).trans (b4 (16 + 3 * j + 1) (by omega))) ((c4 (16 + 3 * j + 2) (by omega) (by omega)).trans (b4 (16 + 3 * j + 2) (by omega)))
  have y58 : MF 58 = _ := ((c5 (58) (by omega) (by omega)).trans (b5 (58) (by omega))).trans x0_5
  have y59 : MF 59 = _ := ((c5 (59) (by omega) (by omega)).trans (b5 (59) (by omega))).trans x1_5
  have y60 : MF 60 = _ := ((c5 (60) (by omega) (by omega)).trans (b5 (60) (by omega))).trans x2_5
  have y61 : MF 61 = _ := ((c5 (61) (by omega) (by omega)).trans (b5 (61) (by omega))).trans x3_5
  have y62 : MF 62 = _ := ((c6 (62) (by omega) (by omega)).trans (b6 (62) (by omega))).trans x0_6
  have y63 : MF 63 = _ := ((c6 (63) (by omega) (by omega)).trans (b6 (63) (by omega))).trans x1_6
  have y64 : ∀ j, j < 2 → kP MF (64 + 3 * j) (pgNew 0) := fun j hj => kP_eq (x3_6 j hj) ((c6 (64 + 3 * j) (by omega) (by omega)).trans (b6 (64 + 3 * j) (by omega))) ((c6 (64 + 3 * j + 1) (by omega) (by omega)).trans (b6 (64 + 3 * j + 1) (by omega))) ((c6 (64 + 3 * j + 2) (by omega) (by omega)).trans (b6 (64 + 3 * j + 2) (by omega)))
  have y70 : MF 70 = _ := ((c7 (70) (by omega)).trans (b7 (70) (by omega))).trans x0_7
  have y71 : MF 71 = _ := ((c7 (71) (by omega)).trans (b7 (71) (by omega))).trans x1_7
  have no : ∀ {α : Prop} {j : Nat}, j < 0 → α := fun h => absurd h (Nat.not_lt_zero _)
  refine ⟨f0, ⟨y1, _, y2, fun j hj => no hj⟩, ⟨y3, ⟨_, y4, fun j hj => no hj⟩, ⟨_, y5, fun j hj => no hj⟩, ⟨_, y6, fun j hj => no hj⟩, ⟨_, y7, fun j hj => no hj⟩⟩, y8, ⟨_, y11⟩, ?_, ⟨y58, ⟨_, y59, fun j hj => no hj⟩, ⟨_, y60, fun j hj => no hj⟩, ⟨_, y61⟩⟩, ?_, ⟨fun _ => 0, y70, _, y71, fun j hj => rfl⟩⟩
  · refine ⟨0, g0, y14, y15, x2_4, by omega, Nat.zero_le _, fun i p hp => (by cases hp), fun i hi => ?_⟩
    obtain ⟨f, g, hs, -⟩ := y16 i hi
    exact ⟨_, _, _, hs⟩
  · refine ⟨0, g4, y62, y63, x2_6, by omega, fun i hi => Nat.zero_testBit i, fun i hi p hp => (by cases hp), fun i hi => ?_⟩
    obtain ⟨f, g, hs, -⟩ := y64 i hi
    exact ⟨_, _, _, hs⟩
