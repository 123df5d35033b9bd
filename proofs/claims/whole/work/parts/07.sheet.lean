theorem e_retT {b : Bool} {M : mM} {P : Option Value → mM → Prop} (h : b = true) (hp : P (some (.int (bI b))) M) : P (some (.int (nI 1))) M := by subst h; exact hp
theorem e_retF {b : Bool} {M : mM} {P : Option Value → mM → Prop} (h : b = false) (hp : P (some (.int (bI b))) M) : P (some (.int (nI 0))) M := by subst h; exact hp
theorem e_reti {a b : Nat} {M : mM} {P : Option Value → mM → Prop} (h : a = b) (hp : P (some (.int (nI b))) M) : P (some (.int (nI a))) M := by subst h; exact hp
theorem e_retv {a b : Int32} {M : mM} {P : Option Value → mM → Prop} (h : a = b) (hp : P (some (.int b)) M) : P (some (.int a)) M := by subst h; exact hp
/-- an int in a range: its number, or not -/
def inR (x : Int32) (n : Nat) : Bool := decide (0 ≤ x.toInt ∧ x.toInt < n)
theorem inR_cases (x : Int32) {n : Nat} (hn : n < 2 ^ 31) : (inR x n = true ∧ ∃ j : Nat, j < n ∧ x = nI j) ∨ (inR x n = false ∧ (x < 0 ∨ (¬ x < 0 ∧ nI n ≤ x))) := by
  unfold inR
  by_cases h0 : x < 0
  · right
    refine ⟨decide_eq_false ?_, Or.inl h0⟩
    rw [Int32.lt_iff_toInt_lt, Int32.toInt_zero] at h0
    omega
  · obtain ⟨j, hj, rfl⟩ := nI_of h0
    by_cases h : j < n
    · left
      refine ⟨decide_eq_true ?_, j, h, rfl⟩
      rw [nI_toInt hj]; omega
    · right
      refine ⟨decide_eq_false ?_, Or.inr ⟨h0, nI_le (by omega) hj⟩⟩
      rw [nI_toInt hj]; omega
theorem inR_nI {j n : Nat} (hj : j < 2 ^ 31) : inR (nI j) n = decide (j < n) := by
  unfold inR
  rw [nI_toInt hj, decide_eq_decide]
  omega
theorem c_X7_isCell {N d : Nat} {x : Int32} {M : mM} {P : Option Value → mM → Prop} (hp : P (some (.int (bI (inR x 12)))) M) : Ev N d mX7_isCell none 0 [.int x] [] M P := by
  rcases inR_cases x (n := 12) (by decide) with ⟨h1, j, hj, rfl⟩ | ⟨h1, h2 | ⟨h2, h3⟩⟩
  · skip
    refine ev_iload_n (i := 0) dX7_isCell_0 rfl rfl ?_
    refine ev_if_ltN 14 dX7_isCell_1 (by decide) (by omega) (fun b1 => by exfalso; omega) (fun b1 => ?_)
    refine ev_iload_n (i := 0) dX7_isCell_4 rfl rfl ?_
    refine ev_bipush (v := nI 12) dX7_isCell_5 rfl ?_
    refine ev_icmp_geN 14 dX7_isCell_7 (by decide) (by omega) (by omega) (fun b7 => by exfalso; omega) (fun b7 => ?_)
    refine ev_iconst (v := nI 1) dX7_isCell_10 rfl ?_
    refine ev_goto 15 dX7_isCell_11 (by decide) ?_
    refine ev_reti dX7_isCell_15 rfl rfl ?_
    exact e_retT (h1) hp
  · skip
    refine ev_iload_n (i := 0) dX7_isCell_0 rfl rfl ?_
    refine ev_if_lt 14 dX7_isCell_1 (by decide) (fun b1 => ?_) (fun b1 => absurd h2 b1)
    refine ev_iconst (v := nI 0) dX7_isCell_14 rfl ?_
    refine ev_reti dX7_isCell_15 rfl rfl ?_
    exact e_retF (h1) hp
  · skip
    refine ev_iload_n (i := 0) dX7_isCell_0 rfl rfl ?_
    refine ev_if_lt 14 dX7_isCell_1 (by decide) (fun b1 => absurd b1 h2) (fun b1 => ?_)
    refine ev_iload_n (i := 0) dX7_isCell_4 rfl rfl ?_
    refine ev_bipush (v := nI 12) dX7_isCell_5 rfl ?_
    refine ev_icmp_ge 14 dX7_isCell_7 (by decide) (fun b7 => ?_) (fun b7 => absurd h3 b7)
    refine ev_iconst (v := nI 0) dX7_isCell_14 rfl ?_
    refine ev_reti dX7_isCell_15 rfl rfl ?_
    exact e_retF (h1) hp
/-- a sheet at k: its two rows behind it -/
def kS (M : mM) (k : Nat) (f g : Nat → Int32) (dy : Int32) : Prop := M k = .inr (3, [.ref (k + 1), .ref (k + 2), .int dy]) ∧ M (k + 1) = .inl (0, 12, .inl f) ∧ M (k + 2) = .inl (0, 12, .inl g)
theorem c_X3_clean {N d k : Nat} {f g : Nat → Int32} {dy : Int32} {c : Nat} {M : mM} {P : Option Value → mM → Prop} (hk : k + 2 < N) (hs : kS M k f g dy) (hc : c < 12) (hp : P none (mu (mu M (k + 1) (.inl (0, 12, .inl (upd f c (nI 0))))) (k + 2) (.inl (0, 12, .inl (upd g c (-9)))))) : Ev N (d + 1) mX3_clean none 0 [.ref k, .int (nI c)] [] M P := by
  obtain ⟨h0, h1, h2⟩ := hs
  have hb : inR (nI c) 12 = true := by rw [inR_nI (by omega)]; exact decide_eq_true hc
  refine ev_iload_n (i := 1) dX3_clean_0 rfl rfl ?_
  refine ev_S1 (μ1 := mX7_isCell) dX3_clean_1 sX3_25 okX7_isCell (Nat.le_of_ble_eq_true rfl) (Nat.le_of_ble_eq_true rfl) ?_
  refine c_X7_isCell ?_
  refine ev_if_eqB 22 dX3_clean_4 (by decide) (fun b4 => by rw [hb] at b4; cases b4) (fun b4 => ?_)
  refine ev_aload_n (i := 0) dX3_clean_7 rfl rfl ?_
  refine ev_getfield dX3_clean_8 fX3_9 (by first | omega | decide) (by first | assumption | (simp (disch := omega) only [mu_s, mu_n]; first | assumption | rfl)) (by rfl) ?_
  refine ev_iload_n (i := 1) dX3_clean_11 rfl rfl ?_
  refine ev_iconst (v := nI 0) dX3_clean_12 rfl ?_
  refine ev_iastoreN dX3_clean_13 (by first | omega | decide) (by first | assumption | (simp (disch := omega) only [mu_s, mu_n]; first | assumption | rfl)) (by omega) (by decide) ?_
  refine ev_aload_n (i := 0) dX3_clean_14 rfl rfl ?_
  refine ev_getfield dX3_clean_15 fX3_15 (by first | omega | decide) (by first | assumption | (simp (disch := omega) only [mu_s, mu_n]; first | assumption | rfl)) (by rfl) ?_
  refine ev_iload_n (i := 1) dX3_clean_18 rfl rfl ?_
  refine ev_bipush (v := (-9)) dX3_clean_19 rfl ?_
  refine ev_iastoreN dX3_clean_21 (by first | omega | decide) (by first | assumption | (simp (disch := omega) only [mu_s, mu_n]; first | assumption | rfl)) (by omega) (by decide) ?_
  refine ev_ret0 dX3_clean_22 rfl ?_
  exact hp
theorem c_X3_renew {N d k : Nat} {f g : Nat → Int32} {dy : Int32} {M : mM} {P : Option Value → mM → Prop} (hk : k + 2 < N) (hs : kS M k f g dy) (hp : P none (mu (mu M (k + 1) (.inl (0, 12, .inl (fun j => if j < 12 then nI 0 else f j)))) (k + 2) (.inl (0, 12, .inl (fun j => if j < 12 then (-9) else g j))))) : Ev N (d + 2) mX3_renew none 0 [.ref k, .null] [] M P := by
  have lp : ∀ (j c : Nat), c + j = 12 → Ev N (d + 2) mX3_renew none 2 [.ref k, .int (nI c)] [] (mu (mu M (k + 1) (.inl (0, 12, .inl (fun j => if j < c then nI 0 else f j)))) (k + 2) (.inl (0, 12, .inl (fun j => if j < c then (-9) else g j)))) P := by
    intro j
    induction j with
    | zero =>
      intro c hc
      obtain rfl : c = 12 := by omega
      refine ev_iload_n (i := 1) dX3_renew_2 rfl rfl ?_
      refine ev_bipush (v := nI 12) dX3_renew_3 rfl ?_
      refine ev_icmp_geN 19 dX3_renew_5 (by decide) (by omega) (by omega) (fun b5 => ?_) (fun b5 => by exfalso; omega)
      refine ev_ret0 dX3_renew_19 rfl ?_
      exact hp
    | succ j ih =>
      intro c hc
      have h0 := hs.1
      have e1 : upd (fun j => if j < c then nI 0 else f j) c (nI 0) = fun j => if j < c + 1 then nI 0 else f j := by
        funext i
        unfold upd
        by_cases h : i = c
        · subst h; simp
        · have : (i < c + 1) ↔ i < c := by omega
          simp [h, this]
      have e2 : upd (fun j => if j < c then (-9) else g j) c (-9) = fun j => if j < c + 1 then (-9) else g j := by
        funext i
        unfold upd
        by_cases h : i = c
        · subst h; simp
        · have : (i < c + 1) ↔ i < c := by omega
          simp [h, this]
      refine ev_iload_n (i := 1) dX3_renew_2 rfl rfl ?_
      refine ev_bipush (v := nI 12) dX3_renew_3 rfl ?_
      refine ev_icmp_geN 19 dX3_renew_5 (by decide) (by omega) (by omega) (fun b5 => by exfalso; omega) (fun b5 => ?_)
      refine ev_aload_n (i := 0) dX3_renew_8 rfl rfl ?_
      refine ev_iload_n (i := 1) dX3_renew_9 rfl rfl ?_
      refine ev_V1 (μ1 := mX3_clean) dX3_renew_10 sX3_21 okX3_clean (by first | omega | decide) (by first | assumption | (simp (disch := omega) only [mu_s, mu_n]; first | assumption | rfl)) (Nat.le_of_ble_eq_true rfl) (Nat.le_of_ble_eq_true rfl) ?_
      refine c_X3_clean (f := fun j => if j < c then nI 0 else f j) (g := fun j => if j < c then (-9) else g j) (dy := dy) hk ⟨by simp (disch := omega) only [mu_s, mu_n]; exact h0, by simp (disch := omega) only [mu_s, mu_n], by simp (disch := omega) only [mu_s, mu_n]⟩ (by omega) ?_
      refine ev_mem (M1 := mu (mu M (k + 1) (.inl (0, 12, .inl (fun j => if j < c + 1 then nI 0 else f j)))) (k + 2) (.inl (0, 12, .inl (fun j => if j < c + 1 then (-9) else g j)))) ?_ ?_
      · rw [e1, e2]
        funext i
        unfold mu
        by_cases i1 : i = k + 2
        · simp [i1]
        · by_cases i2 : i = k + 1
          · simp [i2]
          · simp [i1, i2]
      refine ev_incN dX3_renew_13 (by rfl) (by decide) rfl ?_
      refine ev_goto 2 dX3_renew_16 (by decide) ?_
      exact ih (c + 1) (by omega)
  have h1 := hs.2.1
  have h2 := hs.2.2
  have e0 : M = mu (mu M (k + 1) (.inl (0, 12, .inl (fun j => if j < 0 then nI 0 else f j)))) (k + 2) (.inl (0, 12, .inl (fun j => if j < 0 then (-9) else g j))) := by
    have e1 : (fun j : Nat => if j < 0 then nI 0 else f j) = f := by funext i; simp
    have e2 : (fun j : Nat => if j < 0 then (-9) else g j) = g := by funext i; simp
    rw [e1, e2, mu_self h1, mu_self h2]
  refine ev_mem e0 ?_
  refine ev_iconst (v := nI 0) dX3_renew_0 rfl ?_
  refine ev_istore_n (i := 1) dX3_renew_1 rfl (by decide) rfl ?_
  exact lp 12 0 rfl
theorem c_X3_inkAt {N d k : Nat} {f g : Nat → Int32} {dy x : Int32} {M : mM} {P : Option Value → mM → Prop} (hk : k + 2 < N) (hs : kS M k f g dy) (hp : P (some (.int (if inR x 12 = true then f x.toNatClampNeg else nI 0))) M) : Ev N (d + 1) mX3_inkAt none 0 [.ref k, .int x] [] M P := by
  obtain ⟨h0, h1, h2⟩ := hs
  rcases inR_cases x (n := 12) (by decide) with ⟨hb, j, hj, rfl⟩ | ⟨hb, -⟩
  · rw [if_pos hb, n_cl (by omega)] at hp
    refine ev_iload_n (i := 1) dX3_inkAt_0 rfl rfl ?_
    refine ev_S1 (μ1 := mX7_isCell) dX3_inkAt_1 sX3_25 okX7_isCell (Nat.le_of_ble_eq_true rfl) (Nat.le_of_ble_eq_true rfl) ?_
    refine c_X7_isCell ?_
    refine ev_if_eqB 16 dX3_inkAt_4 (by decide) (fun b4 => by rw [hb] at b4; cases b4) (fun b4 => ?_)
    refine ev_aload_n (i := 0) dX3_inkAt_7 rfl rfl ?_
    refine ev_getfield dX3_inkAt_8 fX3_9 (by first | omega | decide) (by first | assumption | (simp (disch := omega) only [mu_s, mu_n]; first | assumption | rfl)) (by rfl) ?_
    refine ev_iload_n (i := 1) dX3_inkAt_11 rfl rfl ?_
    refine ev_ialoadN dX3_inkAt_12 (by first | omega | decide) (by first | assumption | (simp (disch := omega) only [mu_s, mu_n]; first | assumption | rfl)) (by omega) (by decide) ?_
    refine ev_goto 17 dX3_inkAt_13 (by decide) ?_
    refine ev_reti dX3_inkAt_17 rfl rfl ?_
    exact hp
  · rw [hb, if_neg (by decide)] at hp
    refine ev_iload_n (i := 1) dX3_inkAt_0 rfl rfl ?_
    refine ev_S1 (μ1 := mX7_isCell) dX3_inkAt_1 sX3_25 okX7_isCell (Nat.le_of_ble_eq_true rfl) (Nat.le_of_ble_eq_true rfl) ?_
    refine c_X7_isCell ?_
    refine ev_if_eqB 16 dX3_inkAt_4 (by decide) (fun b4 => ?_) (fun b4 => by rw [hb] at b4; cases b4)
    refine ev_iconst (v := nI 0) dX3_inkAt_16 rfl ?_
    refine ev_reti dX3_inkAt_17 rfl rfl ?_
    exact hp
theorem c_X3_topAt {N d k : Nat} {f g : Nat → Int32} {dy x : Int32} {M : mM} {P : Option Value → mM → Prop} (hk : k + 2 < N) (hs : kS M k f g dy) (hp : P (some (.int (if inR x 12 = true then g x.toNatClampNeg else (-9)))) M) : Ev N (d + 1) mX3_topAt none 0 [.ref k, .int x] [] M P := by
  obtain ⟨h0, h1, h2⟩ := hs
  rcases inR_cases x (n := 12) (by decide) with ⟨hb, j, hj, rfl⟩ | ⟨hb, -⟩
  · rw [if_pos hb, n_cl (by omega)] at hp
    refine ev_iload_n (i := 1) dX3_topAt_0 rfl rfl ?_
    refine ev_S1 (μ1 := mX7_isCell) dX3_topAt_1 sX3_25 okX7_isCell (Nat.le_of_ble_eq_true rfl) (Nat.le_of_ble_eq_true rfl) ?_
    refine c_X7_isCell ?_
    refine ev_if_eqB 16 dX3_topAt_4 (by decide) (fun b4 => by rw [hb] at b4; cases b4) (fun b4 => ?_)
    refine ev_aload_n (i := 0) dX3_topAt_7 rfl rfl ?_
    refine ev_getfield dX3_topAt_8 fX3_15 (by first | omega | decide) (by first | assumption | (simp (disch := omega) only [mu_s, mu_n]; first | assumption | rfl)) (by rfl) ?_
    refine ev_iload_n (i := 1) dX3_topAt_11 rfl rfl ?_
    refine ev_ialoadN dX3_topAt_12 (by first | omega | decide) (by first | assumption | (simp (disch := omega) only [mu_s, mu_n]; first | assumption | rfl)) (by omega) (by decide) ?_
    refine ev_goto 18 dX3_topAt_13 (by decide) ?_
    refine ev_reti dX3_topAt_18 rfl rfl ?_
    exact hp
  · rw [hb, if_neg (by decide)] at hp
    refine ev_iload_n (i := 1) dX3_topAt_0 rfl rfl ?_
    refine ev_S1 (μ1 := mX7_isCell) dX3_topAt_1 sX3_25 okX7_isCell (Nat.le_of_ble_eq_true rfl) (Nat.le_of_ble_eq_true rfl) ?_
    refine c_X7_isCell ?_
    refine ev_if_eqB 16 dX3_topAt_4 (by decide) (fun b4 => ?_) (fun b4 => by rw [hb] at b4; cases b4)
    refine ev_bipush (v := (-9)) dX3_topAt_16 rfl ?_
    refine ev_reti dX3_topAt_18 rfl rfl ?_
    exact hp
/-- what is shown in n days, as bits -/
def shN (ink : Nat → Nat) (n : Nat) : Nat := bN (fun c => decide (n < ink c)) 12
theorem c_X3_shownIn {N d k : Nat} {f g : Nat → Int32} {dy : Int32} {ink : Nat → Nat} {n : Nat} {M : mM} {P : Option Value → mM → Prop} (hk : k + 2 < N) (hs : kS M k f g dy) (hf : ∀ c, c < 12 → f c = nI (ink c) ∧ ink c ≤ 9) (hn : n < 2 ^ 31) (hp : P (some (.int (nI (shN ink n)))) M) : Ev N d mX3_shownIn none 0 [.ref k, .int (nI n), .null, .null] [] M P := by
  obtain ⟨h0, h1, h2⟩ := hs
  have lp : ∀ (j c : Nat), c + j = 12 → Ev N d mX3_shownIn none 4 [.ref k, .int (nI n), .int (nI (bN (fun c => decide (n < ink c)) c)), .int (nI c)] [] M P := by
    intro j
    induction j with
    | zero =>
      intro c hc
      obtain rfl : c = 12 := by omega
      refine ev_iload_n (i := 3) dX3_shownIn_4 rfl rfl ?_
      refine ev_bipush (v := nI 12) dX3_shownIn_5 rfl ?_
      refine ev_icmp_geN 32 dX3_shownIn_7 (by decide) (by omega) (by omega) (fun b7 => ?_) (fun b7 => by exfalso; omega)
      refine ev_iload_n (i := 2) dX3_shownIn_32 rfl rfl ?_
      refine ev_reti dX3_shownIn_33 rfl rfl ?_
      exact hp
    | succ j ih =>
      intro c hc
      obtain ⟨q1, q2⟩ := hf c (by omega)
      refine ev_iload_n (i := 3) dX3_shownIn_4 rfl rfl ?_
      refine ev_bipush (v := nI 12) dX3_shownIn_5 rfl ?_
      refine ev_icmp_geN 32 dX3_shownIn_7 (by decide) (by omega) (by omega) (fun b7 => by exfalso; omega) (fun b7 => ?_)
      refine ev_aload_n (i := 0) dX3_shownIn_10 rfl rfl ?_
      refine ev_getfield dX3_shownIn_11 fX3_9 (by first | omega | decide) (by first | assumption | (simp (disch := omega) only [mu_s, mu_n]; first | assumption | rfl)) (by rfl) ?_
      refine ev_iload_n (i := 3) dX3_shownIn_14 rfl rfl ?_
      refine ev_ialoadN dX3_shownIn_15 (by first | omega | decide) (by first | assumption | (simp (disch := omega) only [mu_s, mu_n]; first | assumption | rfl)) (by omega) (by decide) ?_
      refine ev_top (congrArg Value.int q1) ?_
      refine ev_iload_n (i := 1) dX3_shownIn_16 rfl rfl ?_
      refine ev_icmp_leN 26 dX3_shownIn_17 (by decide) (by omega) (by omega) (fun b17 => ?_) (fun b17 => ?_)
      · skip
        refine ev_incN dX3_shownIn_26 (by rfl) (by decide) rfl ?_
        refine ev_goto 4 dX3_shownIn_29 (by decide) ?_
        first
        | (have e : bN (fun c => decide (n < ink c)) (c + 1) = bN (fun c => decide (n < ink c)) c := by simp only [bN]; rw [if_neg (by simpa using b17)]
           rw [← e]; exact ih (c + 1) (by omega))
        | (have e : bN (fun c => decide (n < ink c)) (c + 1) = bN (fun c => decide (n < ink c)) c ||| 2 ^ c := by simp only [bN]; rw [if_pos (by simpa using b17)]
           rw [← e]; exact ih (c + 1) (by omega))
      · skip
        refine ev_iload_n (i := 2) dX3_shownIn_20 rfl rfl ?_
        refine ev_iconst (v := nI 1) dX3_shownIn_21 rfl ?_
        refine ev_iload_n (i := 3) dX3_shownIn_22 rfl rfl ?_
        refine ev_ishl1 dX3_shownIn_23 (by omega) ?_
        refine ev_iorN dX3_shownIn_24 ?_
        refine ev_istore_n (i := 2) dX3_shownIn_25 rfl (by decide) rfl ?_
        refine ev_incN dX3_shownIn_26 (by rfl) (by decide) rfl ?_
        refine ev_goto 4 dX3_shownIn_29 (by decide) ?_
        first
        | (have e : bN (fun c => decide (n < ink c)) (c + 1) = bN (fun c => decide (n < ink c)) c := by simp only [bN]; rw [if_neg (by simpa using b17)]
           rw [← e]; exact ih (c + 1) (by omega))
        | (have e : bN (fun c => decide (n < ink c)) (c + 1) = bN (fun c => decide (n < ink c)) c ||| 2 ^ c := by simp only [bN]; rw [if_pos (by simpa using b17)]
           rw [← e]; exact ih (c + 1) (by omega))
  refine ev_iconst (v := nI 0) dX3_shownIn_0 rfl ?_
  refine ev_istore_n (i := 2) dX3_shownIn_1 rfl (by decide) rfl ?_
  refine ev_iconst (v := nI 0) dX3_shownIn_2 rfl ?_
  refine ev_istore_n (i := 3) dX3_shownIn_3 rfl (by decide) rfl ?_
  exact lp 12 0 rfl
