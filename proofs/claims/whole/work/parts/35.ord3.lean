def fgK (g : Nat → Nat) : Nat → Nat
  | 0 => 0
  | k + 1 => 10 * fgK g k + g k + 1
theorem fg_all : ∀ n, n < 7 → (pmN n n 0).all (fun q => fgK (gL q) n == fgL q 0 && decide (fgL q 0 < 1000000)) = true := by decide +kernel
theorem sw_f {f : Nat → Int32} {g : Nat → Nat} {a b n : Nat} (h : ∀ i, i < n → f i = nI (g i)) : ∀ i, i < n → upd (upd f a (nI (g b))) b (nI (g a)) i = nI (swN g a b i) := by
  intro i hi
  unfold upd swN
  by_cases h1 : i = b
  · rw [if_pos h1, if_pos h1]
  · rw [if_neg h1, if_neg h1]
    by_cases h2 : i = a
    · rw [if_pos h2, if_pos h2]
    · rw [if_neg h2, if_neg h2]; exact h i hi
theorem sw_l {g : Nat → Nat} {a b n : Nat} (h : ∀ i, i < n → g i < n) (ha : a < n) (hb : b < n) : ∀ i, i < n → swN g a b i < n := by
  intro i hi
  unfold swN
  split
  · exact h a ha
  · split
    · exact h b hb
    · exact h i hi
theorem iS_le (g : Nat → Nat) (k : Nat) : ∀ i, iSr g k i ≤ i
  | 0 => Nat.le_refl 0
  | i + 1 => by
    have := iS_le g k i
    unfold iSr
    split <;> omega
theorem kS_lt {g : Nat → Nat} : ∀ {m k : Nat}, kSr g m = some k → k < m
  | 0, _, h => by cases h
  | m + 1, k, h => by
    unfold kSr at h
    split at h
    · have := kS_lt h; omega
    · cases h; omega
section MEE
variable {d : Nat} {M : mM} {P : Option Value → mM → Prop} {e : Nat → Int32} {ts n ac : Nat} {sd : Int64} {v : ov} {f : Nat → Int32} {g : Nat → Nat}
theorem c_mPlace {x : Nat} (x0 : kO M e ts n ac v.1 sd) (h6 : n ≤ 6) (y : M 87 = .inl (0, 6, .inl f)) (hf : ∀ i, i < n → f i = nI (g i)) (hg : ∀ i, i < n → g i < n) (hx : x < 6) (hp : P (some (.int (nI (plN g x n)))) M) : Ev 88 d mX8_placeOf none 0 [.ref 72, .int (nI x), .null, .null] [] M P := by
  unfold kO at x0
  have lp : ∀ (j k : Nat), k + j = n → Ev 88 d mX8_placeOf none 4 [.ref 72, .int (nI x), .int (nI (plN g x k)), .int (nI k)] [] M P := by
    intro j
    induction j with
    | zero =>
      intro k hk
      obtain rfl : k = n := by omega
      refine ev_iload_n (i := 3) dX8_placeOf_4 rfl rfl ?_
      refine ev_aload_n (i := 0) dX8_placeOf_5 rfl rfl ?_
      refine ev_getfield dX8_placeOf_6 fX8_64 (by first | omega | decide) (by first | assumption | (simp (disch := omega) only [mu_s, mu_n]; first | assumption | rfl)) (by rfl) ?_
      refine ev_icmp_geN 34 dX8_placeOf_9 (by decide) (by omega) (by omega) (fun b9 => ?_) (fun b9 => by exfalso; omega)
      refine ev_iload_n (i := 2) dX8_placeOf_34 rfl rfl ?_
      refine ev_reti dX8_placeOf_35 rfl rfl ?_
      exact hp
    | succ j ih =>
      intro k hk
      have hgk := hg k (by omega)
      have r := ih (k + 1) (by omega)
      by_cases z : g k = x
      · rw [show plN g x (k + 1) = k from if_pos z] at r
        refine ev_iload_n (i := 3) dX8_placeOf_4 rfl rfl ?_
        refine ev_aload_n (i := 0) dX8_placeOf_5 rfl rfl ?_
        refine ev_getfield dX8_placeOf_6 fX8_64 (by first | omega | decide) (by first | assumption | (simp (disch := omega) only [mu_s, mu_n]; first | assumption | rfl)) (by rfl) ?_
        refine ev_icmp_geN 34 dX8_placeOf_9 (by decide) (by omega) (by omega) (fun b9 => by exfalso; omega) (fun b9 => ?_)
        refine ev_aload_n (i := 0) dX8_placeOf_12 rfl rfl ?_
        refine ev_getfield dX8_placeOf_13 fX8_53 (by first | omega | decide) (by first | assumption | (simp (disch := omega) only [mu_s, mu_n]; first | assumption | rfl)) (by rfl) ?_
        refine ev_iload_n (i := 3) dX8_placeOf_16 rfl rfl ?_
        refine ev_ialoadN dX8_placeOf_17 (by first | omega | decide) (by first | assumption | (simp (disch := omega) only [mu_s, mu_n]; first | assumption | rfl)) (by omega) (by decide) ?_
        refine ev_top (i_op (hf k (by omega))) ?_
        refine ev_iload_n (i := 1) dX8_placeOf_18 rfl rfl ?_
        refine ev_icmp_neN 26 dX8_placeOf_19 (by decide) (by omega) (by omega) (fun b19 => by exfalso; omega) (fun b19 => ?_)
        refine ev_iload_n (i := 3) dX8_placeOf_22 rfl rfl ?_
        refine ev_goto 27 dX8_placeOf_23 (by decide) ?_
        refine ev_istore_n (i := 2) dX8_placeOf_27 rfl (by decide) rfl ?_
        refine ev_incN dX8_placeOf_28 (by rfl) (by decide) rfl ?_
        refine ev_goto 4 dX8_placeOf_31 (by decide) ?_
        exact r
      · rw [show plN g x (k + 1) = plN g x k from if_neg z] at r
        refine ev_iload_n (i := 3) dX8_placeOf_4 rfl rfl ?_
        refine ev_aload_n (i := 0) dX8_placeOf_5 rfl rfl ?_
        refine ev_getfield dX8_placeOf_6 fX8_64 (by first | omega | decide) (by first | assumption | (simp (disch := omega) only [mu_s, mu_n]; first | assumption | rfl)) (by rfl) ?_
        refine ev_icmp_geN 34 dX8_placeOf_9 (by decide) (by omega) (by omega) (fun b9 => by exfalso; omega) (fun b9 => ?_)
        refine ev_aload_n (i := 0) dX8_placeOf_12 rfl rfl ?_
        refine ev_getfield dX8_placeOf_13 fX8_53 (by first | omega | decide) (by first | assumption | (simp (disch := omega) only [mu_s, mu_n]; first | assumption | rfl)) (by rfl) ?_
        refine ev_iload_n (i := 3) dX8_placeOf_16 rfl rfl ?_
        refine ev_ialoadN dX8_placeOf_17 (by first | omega | decide) (by first | assumption | (simp (disch := omega) only [mu_s, mu_n]; first | assumption | rfl)) (by omega) (by decide) ?_
        refine ev_top (i_op (hf k (by omega))) ?_
        refine ev_iload_n (i := 1) dX8_placeOf_18 rfl rfl ?_
        refine ev_icmp_neN 26 dX8_placeOf_19 (by decide) (by omega) (by omega) (fun b19 => ?_) (fun b19 => by exfalso; omega)
        refine ev_iload_n (i := 2) dX8_placeOf_26 rfl rfl ?_
        refine ev_istore_n (i := 2) dX8_placeOf_27 rfl (by decide) rfl ?_
        refine ev_incN dX8_placeOf_28 (by rfl) (by decide) rfl ?_
        refine ev_goto 4 dX8_placeOf_31 (by decide) ?_
        exact r
  refine ev_iconst (v := nI 0) dX8_placeOf_0 rfl ?_
  refine ev_istore_n (i := 2) dX8_placeOf_1 rfl (by decide) rfl ?_
  refine ev_iconst (v := nI 0) dX8_placeOf_2 rfl ?_
  refine ev_istore_n (i := 3) dX8_placeOf_3 rfl (by decide) rfl ?_
  exact lp n 0 (by omega)
theorem pl_lt (g : Nat → Nat) (x : Nat) : ∀ k, plN g x k ≤ k
  | 0 => Nat.le_refl 0
  | k + 1 => by
    have := pl_lt g x k
    unfold plN
    split <;> omega
theorem c_isOver (hO : kO M e ts n ac v.1 sd) (hV : kMV M v) (ho : ovOk v) (h6 : n ≤ 6) (y : M 87 = .inl (0, 6, .inl f)) (hf : ∀ i, i < n → f i = nI (g i)) (hg : ∀ i, i < n → g i < n) (hp : P (some (.int (bI (ovB v n g)))) M) : Ev 88 (d + 2) mX8_isOver none 0 [.ref 72, .null, .null, .null] [] M P := by
  have x0 := hO
  unfold kO at x0
  have hv6 := ho.1
  obtain ⟨⟨fa, xa, ya⟩, ⟨fb, xb, yb⟩⟩ := hV
  have lp : ∀ (j i : Nat) (b : Bool) (lx : Value), i + j = v.1 → b = allB (fun i => lkB n g (v.2.1 i) (v.2.2 i)) i → Ev 88 (d + 2) mX8_isOver none 4 [.ref 72, .int (bI b), .int (nI i), lx] [] M P := by
    intro j
    induction j with
    | zero =>
      intro i b lx hi hb
      obtain rfl : i = v.1 := by omega
      unfold ovB at hp
      rw [← hb] at hp
      refine ev_iload_n (i := 2) dX8_isOver_4 rfl rfl ?_
      refine ev_aload_n (i := 0) dX8_isOver_5 rfl rfl ?_
      refine ev_getfield dX8_isOver_6 fX8_110 (by first | omega | decide) (by first | assumption | (simp (disch := omega) only [mu_s, mu_n]; first | assumption | rfl)) (by rfl) ?_
      refine ev_icmp_geN 87 dX8_isOver_9 (by decide) (by omega) (by omega) (fun b9 => ?_) (fun b9 => by exfalso; omega)
      refine ev_iload_n (i := 1) dX8_isOver_87 rfl rfl ?_
      refine ev_reti dX8_isOver_88 rfl (bI_nar b) ?_
      exact hp
    | succ j ih =>
      intro i b lx hi hb
      cases b with
      | false =>
        have hb2 := allB_m (p := fun i => lkB n g (v.2.1 i) (v.2.2 i)) (show i ≤ v.1 by omega) hb.symm
        unfold ovB at hp
        rw [hb2] at hp
        refine ev_iload_n (i := 2) dX8_isOver_4 rfl rfl ?_
        refine ev_aload_n (i := 0) dX8_isOver_5 rfl rfl ?_
        refine ev_getfield dX8_isOver_6 fX8_110 (by first | omega | decide) (by first | assumption | (simp (disch := omega) only [mu_s, mu_n]; first | assumption | rfl)) (by rfl) ?_
        refine ev_icmp_geN 87 dX8_isOver_9 (by decide) (by omega) (by omega) (fun b9 => by exfalso; omega) (fun b9 => ?_)
        refine ev_iload_n (i := 1) dX8_isOver_12 rfl rfl ?_
        refine ev_if_eqB 87 dX8_isOver_13 (by decide) (fun b13 => ?_) (fun b13 => by cases b13)
        refine ev_iload_n (i := 1) dX8_isOver_87 rfl rfl ?_
        refine ev_reti dX8_isOver_88 rfl (bI_nar false) ?_
        exact hp
      | true =>
        obtain ⟨ha6, hb6⟩ := ho.2 i (by omega)
        obtain ⟨A, hA⟩ : ∃ A, A = v.2.1 i := ⟨_, rfl⟩
        obtain ⟨B, hB⟩ : ∃ B, B = v.2.2 i := ⟨_, rfl⟩
        have yai := ya i (by omega)
        have ybi := yb i (by omega)
        rw [← hA] at ha6 yai
        rw [← hB] at hb6 ybi
        have hnx : ∀ c : Bool, c = lkB n g A B → c = allB (fun i => lkB n g (v.2.1 i) (v.2.2 i)) (i + 1) := fun c hc => by
          show c = (allB (fun i => lkB n g (v.2.1 i) (v.2.2 i)) i && lkB n g (v.2.1 i) (v.2.2 i))
          rw [← hb, Bool.true_and, ← hA, ← hB, hc]
        have p1 := pl_lt g A n
        have p2 := pl_lt g B n
        by_cases hAn : A < n
        · have iA : (!inR (nI A) n) = false := by rw [inR_nI (by omega), decide_eq_true hAn]; rfl
          by_cases hBn : B < n
          · have iB : (!inR (nI B) n) = false := by rw [inR_nI (by omega), decide_eq_true hBn]; rfl
            by_cases hlt : plN g B n < plN g A n
            · have r := fun lx => ih (i + 1) true lx (by omega) (hnx true (by unfold lkB; rw [decide_eq_true hlt, Bool.or_true]))
              refine ev_iload_n (i := 2) dX8_isOver_4 rfl rfl ?_
              refine ev_aload_n (i := 0) dX8_isOver_5 rfl rfl ?_
              refine ev_getfield dX8_isOver_6 fX8_110 (by first | omega | decide) (by first | assumption | (simp (disch := omega) only [mu_s, mu_n]; first | assumption | rfl)) (by rfl) ?_
              refine ev_icmp_geN 87 dX8_isOver_9 (by decide) (by omega) (by omega) (fun b9 => by exfalso; omega) (fun b9 => ?_)
              refine ev_iload_n (i := 1) dX8_isOver_12 rfl rfl ?_
              refine ev_if_eqB 87 dX8_isOver_13 (by decide) (fun b13 => by cases b13) (fun b13 => ?_)
              refine ev_aload_n (i := 0) dX8_isOver_16 rfl rfl ?_
              refine ev_aload_n (i := 0) dX8_isOver_17 rfl rfl ?_
              refine ev_getfield dX8_isOver_18 fX8_44 (by first | omega | decide) (by first | assumption | (simp (disch := omega) only [mu_s, mu_n]; first | assumption | rfl)) (by rfl) ?_
              refine ev_iload_n (i := 2) dX8_isOver_21 rfl rfl ?_
              refine ev_ialoadN dX8_isOver_22 (by first | omega | decide) (by first | assumption | (simp (disch := omega) only [mu_s, mu_n]; first | assumption | rfl)) (by omega) (by decide) ?_
              refine ev_top (i_op yai) ?_
              refine ev_V1 (μ1 := mX8_noLetter) dX8_isOver_23 sX8_113 okX8_noLetter (by first | omega | decide) (by first | assumption | (simp (disch := omega) only [mu_s, mu_n]; first | assumption | rfl)) (Nat.le_of_ble_eq_true rfl) (Nat.le_of_ble_eq_true rfl) ?_
              refine c_noLetter hO h6 ?_
              refine ev_top (i_op (congrArg bI iA)) ?_
              refine ev_if_neB 46 dX8_isOver_26 (by decide) (fun b26 => by cases b26) (fun b26 => ?_)
              refine ev_aload_n (i := 0) dX8_isOver_29 rfl rfl ?_
              refine ev_aload_n (i := 0) dX8_isOver_30 rfl rfl ?_
              refine ev_getfield dX8_isOver_31 fX8_47 (by first | omega | decide) (by first | assumption | (simp (disch := omega) only [mu_s, mu_n]; first | assumption | rfl)) (by rfl) ?_
              refine ev_iload_n (i := 2) dX8_isOver_34 rfl rfl ?_
              refine ev_ialoadN dX8_isOver_35 (by first | omega | decide) (by first | assumption | (simp (disch := omega) only [mu_s, mu_n]; first | assumption | rfl)) (by omega) (by decide) ?_
              refine ev_top (i_op ybi) ?_
              refine ev_V1 (μ1 := mX8_noLetter) dX8_isOver_36 sX8_113 okX8_noLetter (by first | omega | decide) (by first | assumption | (simp (disch := omega) only [mu_s, mu_n]; first | assumption | rfl)) (Nat.le_of_ble_eq_true rfl) (Nat.le_of_ble_eq_true rfl) ?_
              refine c_noLetter hO h6 ?_
              refine ev_top (i_op (congrArg bI iB)) ?_
              refine ev_if_neB 46 dX8_isOver_39 (by decide) (fun b39 => by cases b39) (fun b39 => ?_)
              refine ev_iconst (v := nI 1) dX8_isOver_42 rfl ?_
              refine ev_goto 47 dX8_isOver_43 (by decide) ?_
              refine ev_istore_n (i := 3) dX8_isOver_47 rfl (by decide) rfl ?_
              refine ev_iload_n (i := 3) dX8_isOver_48 rfl rfl ?_
              refine ev_if_eqN 75 dX8_isOver_49 (by decide) (by omega) (fun b49 => by exfalso; omega) (fun b49 => ?_)
              refine ev_aload_n (i := 0) dX8_isOver_52 rfl rfl ?_
              refine ev_aload_n (i := 0) dX8_isOver_53 rfl rfl ?_
              refine ev_getfield dX8_isOver_54 fX8_44 (by first | omega | decide) (by first | assumption | (simp (disch := omega) only [mu_s, mu_n]; first | assumption | rfl)) (by rfl) ?_
              refine ev_iload_n (i := 2) dX8_isOver_57 rfl rfl ?_
              refine ev_ialoadN dX8_isOver_58 (by first | omega | decide) (by first | assumption | (simp (disch := omega) only [mu_s, mu_n]; first | assumption | rfl)) (by omega) (by decide) ?_
              refine ev_top (i_op yai) ?_
              refine ev_V1 (μ1 := mX8_placeOf) dX8_isOver_59 sX8_176 okX8_placeOf (by first | omega | decide) (by first | assumption | (simp (disch := omega) only [mu_s, mu_n]; first | assumption | rfl)) (Nat.le_of_ble_eq_true rfl) (Nat.le_of_ble_eq_true rfl) ?_
              refine c_mPlace hO h6 y hf hg ha6 ?_
              refine ev_aload_n (i := 0) dX8_isOver_62 rfl rfl ?_
              refine ev_aload_n (i := 0) dX8_isOver_63 rfl rfl ?_
              refine ev_getfield dX8_isOver_64 fX8_47 (by first | omega | decide) (by first | assumption | (simp (disch := omega) only [mu_s, mu_n]; first | assumption | rfl)) (by rfl) ?_
              refine ev_iload_n (i := 2) dX8_isOver_67 rfl rfl ?_
              refine ev_ialoadN dX8_isOver_68 (by first | omega | decide) (by first | assumption | (simp (disch := omega) only [mu_s, mu_n]; first | assumption | rfl)) (by omega) (by decide) ?_
              refine ev_top (i_op ybi) ?_
              refine ev_V1 (μ1 := mX8_placeOf) dX8_isOver_69 sX8_176 okX8_placeOf (by first | omega | decide) (by first | assumption | (simp (disch := omega) only [mu_s, mu_n]; first | assumption | rfl)) (Nat.le_of_ble_eq_true rfl) (Nat.le_of_ble_eq_true rfl) ?_
              refine c_mPlace hO h6 y hf hg hb6 ?_
              refine ev_icmp_leN 79 dX8_isOver_72 (by decide) (by omega) (by omega) (fun b72 => by exfalso; omega) (fun b72 => ?_)
              refine ev_iconst (v := nI 1) dX8_isOver_75 rfl ?_
              refine ev_goto 80 dX8_isOver_76 (by decide) ?_
              refine ev_istore_n (i := 1) dX8_isOver_80 rfl (by decide) rfl ?_
              refine ev_incN dX8_isOver_81 (by rfl) (by decide) rfl ?_
              refine ev_goto 4 dX8_isOver_84 (by decide) ?_
              exact r _
            · have r := fun lx => ih (i + 1) false lx (by omega) (hnx false (by unfold lkB; rw [decide_eq_false hlt, decide_eq_true hAn, decide_eq_true hBn]; rfl))
              refine ev_iload_n (i := 2) dX8_isOver_4 rfl rfl ?_
              refine ev_aload_n (i := 0) dX8_isOver_5 rfl rfl ?_
              refine ev_getfield dX8_isOver_6 fX8_110 (by first | omega | decide) (by first | assumption | (simp (disch := omega) only [mu_s, mu_n]; first | assumption | rfl)) (by rfl) ?_
              refine ev_icmp_geN 87 dX8_isOver_9 (by decide) (by omega) (by omega) (fun b9 => by exfalso; omega) (fun b9 => ?_)
              refine ev_iload_n (i := 1) dX8_isOver_12 rfl rfl ?_
              refine ev_if_eqB 87 dX8_isOver_13 (by decide) (fun b13 => by cases b13) (fun b13 => ?_)
              refine ev_aload_n (i := 0) dX8_isOver_16 rfl rfl ?_
              refine ev_aload_n (i := 0) dX8_isOver_17 rfl rfl ?_
              refine ev_getfield dX8_isOver_18 fX8_44 (by first | omega | decide) (by first | assumption | (simp (disch := omega) only [mu_s, mu_n]; first | assumption | rfl)) (by rfl) ?_
              refine ev_iload_n (i := 2) dX8_isOver_21 rfl rfl ?_
              refine ev_ialoadN dX8_isOver_22 (by first | omega | decide) (by first | assumption | (simp (disch := omega) only [mu_s, mu_n]; first | assumption | rfl)) (by omega) (by decide) ?_
              refine ev_top (i_op yai) ?_
              refine ev_V1 (μ1 := mX8_noLetter) dX8_isOver_23 sX8_113 okX8_noLetter (by first | omega | decide) (by first | assumption | (simp (disch := omega) only [mu_s, mu_n]; first | assumption | rfl)) (Nat.le_of_ble_eq_true rfl) (Nat.le_of_ble_eq_true rfl) ?_
              refine c_noLetter hO h6 ?_
              refine ev_top (i_op (congrArg bI iA)) ?_
              refine ev_if_neB 46 dX8_isOver_26 (by decide) (fun b26 => by cases b26) (fun b26 => ?_)
              refine ev_aload_n (i := 0) dX8_isOver_29 rfl rfl ?_
              refine ev_aload_n (i := 0) dX8_isOver_30 rfl rfl ?_
              refine ev_getfield dX8_isOver_31 fX8_47 (by first | omega | decide) (by first | assumption | (simp (disch := omega) only [mu_s, mu_n]; first | assumption | rfl)) (by rfl) ?_
              refine ev_iload_n (i := 2) dX8_isOver_34 rfl rfl ?_
              refine ev_ialoadN dX8_isOver_35 (by first | omega | decide) (by first | assumption | (simp (disch := omega) only [mu_s, mu_n]; first | assumption | rfl)) (by omega) (by decide) ?_
              refine ev_top (i_op ybi) ?_
              refine ev_V1 (μ1 := mX8_noLetter) dX8_isOver_36 sX8_113 okX8_noLetter (by first | omega | decide) (by first | assumption | (simp (disch := omega) only [mu_s, mu_n]; first | assumption | rfl)) (Nat.le_of_ble_eq_true rfl) (Nat.le_of_ble_eq_true rfl) ?_
              refine c_noLetter hO h6 ?_
              refine ev_top (i_op (congrArg bI iB)) ?_
              refine ev_if_neB 46 dX8_isOver_39 (by decide) (fun b39 => by cases b39) (fun b39 => ?_)
              refine ev_iconst (v := nI 1) dX8_isOver_42 rfl ?_
              refine ev_goto 47 dX8_isOver_43 (by decide) ?_
              refine ev_istore_n (i := 3) dX8_isOver_47 rfl (by decide) rfl ?_
              refine ev_iload_n (i := 3) dX8_isOver_48 rfl rfl ?_
              refine ev_if_eqN 75 dX8_isOver_49 (by decide) (by omega) (fun b49 => by exfalso; omega) (fun b49 => ?_)
              refine ev_aload_n (i := 0) dX8_isOver_52 rfl rfl ?_
              refine ev_aload_n (i := 0) dX8_isOver_53 rfl rfl ?_
              refine ev_getfield dX8_isOver_54 fX8_44 (by first | omega | decide) (by first | assumption | (simp (disch := omega) only [mu_s, mu_n]; first | assumption | rfl)) (by rfl) ?_
              refine ev_iload_n (i := 2) dX8_isOver_57 rfl rfl ?_
              refine ev_ialoadN dX8_isOver_58 (by first | omega | decide) (by first | assumption | (simp (disch := omega) only [mu_s, mu_n]; first | assumption | rfl)) (by omega) (by decide) ?_
              refine ev_top (i_op yai) ?_
              refine ev_V1 (μ1 := mX8_placeOf) dX8_isOver_59 sX8_176 okX8_placeOf (by first | omega | decide) (by first | assumption | (simp (disch := omega) only [mu_s, mu_n]; first | assumption | rfl)) (Nat.le_of_ble_eq_true rfl) (Nat.le_of_ble_eq_true rfl) ?_
              refine c_mPlace hO h6 y hf hg ha6 ?_
              refine ev_aload_n (i := 0) dX8_isOver_62 rfl rfl ?_
              refine ev_aload_n (i := 0) dX8_isOver_63 rfl rfl ?_
              refine ev_getfield dX8_isOver_64 fX8_47 (by first | omega | decide) (by first | assumption | (simp (disch := omega) only [mu_s, mu_n]; first | assumption | rfl)) (by rfl) ?_
              refine ev_iload_n (i := 2) dX8_isOver_67 rfl rfl ?_
              refine ev_ialoadN dX8_isOver_68 (by first | omega | decide) (by first | assumption | (simp (disch := omega) only [mu_s, mu_n]; first | assumption | rfl)) (by omega) (by decide) ?_
              refine ev_top (i_op ybi) ?_
              refine ev_V1 (μ1 := mX8_placeOf) dX8_isOver_69 sX8_176 okX8_placeOf (by first | omega | decide) (by first | assumption | (simp (disch := omega) only [mu_s, mu_n]; first | assumption | rfl)) (Nat.le_of_ble_eq_true rfl) (Nat.le_of_ble_eq_true rfl) ?_
              refine c_mPlace hO h6 y hf hg hb6 ?_
              refine ev_icmp_leN 79 dX8_isOver_72 (by decide) (by omega) (by omega) (fun b72 => ?_) (fun b72 => by exfalso; omega)
              refine ev_iconst (v := nI 0) dX8_isOver_79 rfl ?_
              refine ev_istore_n (i := 1) dX8_isOver_80 rfl (by decide) rfl ?_
              refine ev_incN dX8_isOver_81 (by rfl) (by decide) rfl ?_
              refine ev_goto 4 dX8_isOver_84 (by decide) ?_
              exact r _
          · have iB : (!inR (nI B) n) = true := by rw [inR_nI (by omega), decide_eq_false hBn]; rfl
            have r := fun lx => ih (i + 1) true lx (by omega) (hnx true (by unfold lkB; rw [decide_eq_false hBn, Bool.and_false]; rfl))
            refine ev_iload_n (i := 2) dX8_isOver_4 rfl rfl ?_
            refine ev_aload_n (i := 0) dX8_isOver_5 rfl rfl ?_
            refine ev_getfield dX8_isOver_6 fX8_110 (by first | omega | decide) (by first | assumption | (simp (disch := omega) only [mu_s, mu_n]; first | assumption | rfl)) (by rfl) ?_
            refine ev_icmp_geN 87 dX8_isOver_9 (by decide) (by omega) (by omega) (fun b9 => by exfalso; omega) (fun b9 => ?_)
            refine ev_iload_n (i := 1) dX8_isOver_12 rfl rfl ?_
            refine ev_if_eqB 87 dX8_isOver_13 (by decide) (fun b13 => by cases b13) (fun b13 => ?_)
            refine ev_aload_n (i := 0) dX8_isOver_16 rfl rfl ?_
            refine ev_aload_n (i := 0) dX8_isOver_17 rfl rfl ?_
            refine ev_getfield dX8_isOver_18 fX8_44 (by first | omega | decide) (by first | assumption | (simp (disch := omega) only [mu_s, mu_n]; first | assumption | rfl)) (by rfl) ?_
            refine ev_iload_n (i := 2) dX8_isOver_21 rfl rfl ?_
            refine ev_ialoadN dX8_isOver_22 (by first | omega | decide) (by first | assumption | (simp (disch := omega) only [mu_s, mu_n]; first | assumption | rfl)) (by omega) (by decide) ?_
            refine ev_top (i_op yai) ?_
            refine ev_V1 (μ1 := mX8_noLetter) dX8_isOver_23 sX8_113 okX8_noLetter (by first | omega | decide) (by first | assumption | (simp (disch := omega) only [mu_s, mu_n]; first | assumption | rfl)) (Nat.le_of_ble_eq_true rfl) (Nat.le_of_ble_eq_true rfl) ?_
            refine c_noLetter hO h6 ?_
            refine ev_top (i_op (congrArg bI iA)) ?_
            refine ev_if_neB 46 dX8_isOver_26 (by decide) (fun b26 => by cases b26) (fun b26 => ?_)
            refine ev_aload_n (i := 0) dX8_isOver_29 rfl rfl ?_
            refine ev_aload_n (i := 0) dX8_isOver_30 rfl rfl ?_
            refine ev_getfield dX8_isOver_31 fX8_47 (by first | omega | decide) (by first | assumption | (simp (disch := omega) only [mu_s, mu_n]; first | assumption | rfl)) (by rfl) ?_
            refine ev_iload_n (i := 2) dX8_isOver_34 rfl rfl ?_
            refine ev_ialoadN dX8_isOver_35 (by first | omega | decide) (by first | assumption | (simp (disch := omega) only [mu_s, mu_n]; first | assumption | rfl)) (by omega) (by decide) ?_
            refine ev_top (i_op ybi) ?_
            refine ev_V1 (μ1 := mX8_noLetter) dX8_isOver_36 sX8_113 okX8_noLetter (by first | omega | decide) (by first | assumption | (simp (disch := omega) only [mu_s, mu_n]; first | assumption | rfl)) (Nat.le_of_ble_eq_true rfl) (Nat.le_of_ble_eq_true rfl) ?_
            refine c_noLetter hO h6 ?_
            refine ev_top (i_op (congrArg bI iB)) ?_
            refine ev_if_neB 46 dX8_isOver_39 (by decide) (fun b39 => ?_) (fun b39 => by cases b39)
            refine ev_iconst (v := nI 0) dX8_isOver_46 rfl ?_
            refine ev_istore_n (i := 3) dX8_isOver_47 rfl (by decide) rfl ?_
            refine ev_iload_n (i := 3) dX8_isOver_48 rfl rfl ?_
            refine ev_if_eqN 75 dX8_isOver_49 (by decide) (by omega) (fun b49 => ?_) (fun b49 => by exfalso; omega)
            refine ev_iconst (v := nI 1) dX8_isOver_75 rfl ?_
            refine ev_goto 80 dX8_isOver_76 (by decide) ?_
            refine ev_istore_n (i := 1) dX8_isOver_80 rfl (by decide) rfl ?_
            refine ev_incN dX8_isOver_81 (by rfl) (by decide) rfl ?_
            refine ev_goto 4 dX8_isOver_84 (by decide) ?_
            exact r _
        · have iA : (!inR (nI A) n) = true := by rw [inR_nI (by omega), decide_eq_false hAn]; rfl
          have r := fun lx => ih (i + 1) true lx (by omega) (hnx true (by unfold lkB; rw [decide_eq_false hAn, Bool.false_and]; rfl))
          refine ev_iload_n (i := 2) dX8_isOver_4 rfl rfl ?_
          refine ev_aload_n (i := 0) dX8_isOver_5 rfl rfl ?_
          refine ev_getfield dX8_isOver_6 fX8_110 (by first | omega | decide) (by first | assumption | (simp (disch := omega) only [mu_s, mu_n]; first | assumption | rfl)) (by rfl) ?_
          refine ev_icmp_geN 87 dX8_isOver_9 (by decide) (by omega) (by omega) (fun b9 => by exfalso; omega) (fun b9 => ?_)
          refine ev_iload_n (i := 1) dX8_isOver_12 rfl rfl ?_
          refine ev_if_eqB 87 dX8_isOver_13 (by decide) (fun b13 => by cases b13) (fun b13 => ?_)
          refine ev_aload_n (i := 0) dX8_isOver_16 rfl rfl ?_
          refine ev_aload_n (i := 0) dX8_isOver_17 rfl rfl ?_
          refine ev_getfield dX8_isOver_18 fX8_44 (by first | omega | decide) (by first | assumption | (simp (disch := omega) only [mu_s, mu_n]; first | assumption | rfl)) (by rfl) ?_
          refine ev_iload_n (i := 2) dX8_isOver_21 rfl rfl ?_
          refine ev_ialoadN dX8_isOver_22 (by first | omega | decide) (by first | assumption | (simp (disch := omega) only [mu_s, mu_n]; first | assumption | rfl)) (by omega) (by decide) ?_
          refine ev_top (i_op yai) ?_
          refine ev_V1 (μ1 := mX8_noLetter) dX8_isOver_23 sX8_113 okX8_noLetter (by first | omega | decide) (by first | assumption | (simp (disch := omega) only [mu_s, mu_n]; first | assumption | rfl)) (Nat.le_of_ble_eq_true rfl) (Nat.le_of_ble_eq_true rfl) ?_
          refine c_noLetter hO h6 ?_
          refine ev_top (i_op (congrArg bI iA)) ?_
          refine ev_if_neB 46 dX8_isOver_26 (by decide) (fun b26 => ?_) (fun b26 => by cases b26)
          refine ev_iconst (v := nI 0) dX8_isOver_46 rfl ?_
          refine ev_istore_n (i := 3) dX8_isOver_47 rfl (by decide) rfl ?_
          refine ev_iload_n (i := 3) dX8_isOver_48 rfl rfl ?_
          refine ev_if_eqN 75 dX8_isOver_49 (by decide) (by omega) (fun b49 => ?_) (fun b49 => by exfalso; omega)
          refine ev_iconst (v := nI 1) dX8_isOver_75 rfl ?_
          refine ev_goto 80 dX8_isOver_76 (by decide) ?_
          refine ev_istore_n (i := 1) dX8_isOver_80 rfl (by decide) rfl ?_
          refine ev_incN dX8_isOver_81 (by rfl) (by decide) rfl ?_
          refine ev_goto 4 dX8_isOver_84 (by decide) ?_
          exact r _
  refine ev_iconst (v := nI 1) dX8_isOver_0 rfl ?_
  refine ev_istore_n (i := 1) dX8_isOver_1 rfl (by decide) rfl ?_
  refine ev_iconst (v := nI 0) dX8_isOver_2 rfl ?_
  refine ev_istore_n (i := 2) dX8_isOver_3 rfl (by decide) rfl ?_
  exact lp v.1 0 true _ (by omega) rfl
end MEE

