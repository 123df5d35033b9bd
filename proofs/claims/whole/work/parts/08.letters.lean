theorem bN_t {p : Nat → Bool} {n : Nat} (h : p n = true) : bN p n ||| 2 ^ n = bN p (n + 1) := by
  show _ = if p n = true then bN p n ||| 2 ^ n else bN p n
  rw [if_pos h]
theorem bN_f {p : Nat → Bool} {n : Nat} (h : ¬ p n = true) : bN p n = bN p (n + 1) := by
  show _ = if p n = true then bN p n ||| 2 ^ n else bN p n
  rw [if_neg h]
theorem oN_t {p : Nat → Bool} {g : Nat → Nat} {n : Nat} (h : p n = true) : oN p g n ||| g n = oN p g (n + 1) := by
  show _ = if p n = true then oN p g n ||| g n else oN p g n
  rw [if_pos h]
theorem oN_f {p : Nat → Bool} {g : Nat → Nat} {n : Nat} (h : ¬ p n = true) : oN p g n = oN p g (n + 1) := by
  show _ = if p n = true then oN p g n ||| g n else oN p g n
  rw [if_neg h]
theorem i_op {a b : Int32} (h : a = b) : Value.int a = Value.int b := congrArg Value.int h
theorem and_lt31 {a b : Nat} (h : b < 2 ^ 31) : a &&& b < 2 ^ 31 := Nat.lt_of_le_of_lt Nat.and_le_right h
theorem pw_le {a b : Nat} (h : a ≤ b) : 2 ^ a ≤ 2 ^ b := Nat.pow_le_pow_right (by decide) h
/-! letters: how many, place, hand, force, cells -/
abbrev lt : Type := Nat × (Nat → Nat) × (Nat → Nat) × (Nat → Nat) × (Nat → Nat)
/-- what a letter may be -/
def ltOk (t : lt) : Prop := t.1 ≤ 6 ∧ ∀ l, l < t.1 → t.2.1 l ≤ 8 ∧ t.2.2.1 l ≤ 3 ∧ t.2.2.2.1 l ≤ 4 ∧ ∃ m, 0 < m ∧ m < 16 ∧ t.2.2.2.2 l = m * 2 ^ t.2.1 l
theorem ltOk_cells {t : lt} (h : ltOk t) {l : Nat} (hl : l < t.1) : t.2.2.2.2 l < 4096 ∧ 0 < t.2.2.2.2 l := by
  obtain ⟨h1, -, -, m, h2, h3, h4⟩ := h.2 l hl
  have h5 : 2 ^ t.2.1 l ≤ 2 ^ 8 := pw_le h1
  have h6 : 0 < 2 ^ t.2.1 l := Nat.two_pow_pos _
  rw [h4]
  constructor
  · calc m * 2 ^ t.2.1 l ≤ 15 * 2 ^ 8 := Nat.mul_le_mul (by omega) h5
      _ < 4096 := by decide
  · exact Nat.mul_pos h2 h6
theorem ltOk_win {t : lt} (h : ltOk t) {l : Nat} (hl : l < t.1) : 15 * 2 ^ t.2.1 l < 4096 := by
  have h5 : 2 ^ t.2.1 l ≤ 2 ^ 8 := pw_le (h.2 l hl).1
  omega
def arr (M : mM) (i n : Nat) (m : Nat) (g : Nat → Nat) : Prop := ∃ f, M i = .inl (0, n, .inl f) ∧ ∀ j, j < m → f j = nI (g j)
/-- the class's letters: cells 3 .. 7 -/
def kLt (M : mM) (t : lt) : Prop := M 3 = .inr (1, [.ref 4, .ref 5, .ref 6, .ref 7, .int (nI t.1)]) ∧ arr M 4 6 t.1 t.2.1 ∧ arr M 5 6 t.1 t.2.2.1 ∧ arr M 6 6 t.1 t.2.2.2.1 ∧ arr M 7 6 t.1 t.2.2.2.2
/-- a letter can be read where just s is shown -/
def rdN (t : lt) (s l : Nat) : Bool := decide (s &&& 15 * 2 ^ t.2.1 l = t.2.2.2.2 l)
def rdSet (t : lt) (s : Nat) : Nat := bN (rdN t s) t.1
/-- what a set of letters shows on a new sheet -/
def shBy (t : lt) (s : Nat) : Nat := oN (fun l => s.testBit l && decide (t.2.2.2.1 l ≠ 0)) t.2.2.2.2 t.1
/-- by how many letters a cell is shown -/
def shwN (t : lt) (c : Nat) : Nat := sN (fun l => shBy t (2 ^ l) / 2 ^ c % 2) t.1
theorem shBy_lt {t : lt} (h : ltOk t) (s : Nat) : shBy t s < 4096 := oN_lt (w := 12) (fun l hl => (ltOk_cells h hl).1)
section LET
variable {N d : Nat} {t : lt} {M : mM} {P : Option Value → mM → Prop}
theorem c_X1_has {x : Int32} (hL : kLt M t) (ho : ltOk t) (hp : P (some (.int (bI (inR x t.1)))) M) : Ev 88 d mX1_has none 0 [.ref 3, .int x] [] M P := by
  have h6 := ho.1
  have h3 := hL.1
  rcases inR_cases x (n := t.1) (by omega) with ⟨h1, j, hj, rfl⟩ | ⟨h1, h2 | ⟨h2, h3⟩⟩
  · skip
    refine ev_iload_n (i := 1) dX1_has_0 rfl rfl ?_
    refine ev_if_ltN 22 dX1_has_1 (by decide) (by omega) (fun b1 => by exfalso; omega) (fun b1 => ?_)
    refine ev_iload_n (i := 1) dX1_has_4 rfl rfl ?_
    refine ev_aload_n (i := 0) dX1_has_5 rfl rfl ?_
    refine ev_getfield dX1_has_6 fX1_24 (by first | omega | decide) (by first | assumption | (simp (disch := omega) only [mu_s, mu_n]; first | assumption | rfl)) (by rfl) ?_
    refine ev_icmp_geN 22 dX1_has_9 (by decide) (by omega) (by omega) (fun b9 => by exfalso; omega) (fun b9 => ?_)
    refine ev_iload_n (i := 1) dX1_has_12 rfl rfl ?_
    refine ev_bipush (v := nI 6) dX1_has_13 rfl ?_
    refine ev_icmp_geN 22 dX1_has_15 (by decide) (by omega) (by omega) (fun b15 => by exfalso; omega) (fun b15 => ?_)
    refine ev_iconst (v := nI 1) dX1_has_18 rfl ?_
    refine ev_goto 23 dX1_has_19 (by decide) ?_
    refine ev_reti dX1_has_23 rfl rfl ?_
    exact e_retT (h1) hp
  · skip
    refine ev_iload_n (i := 1) dX1_has_0 rfl rfl ?_
    refine ev_if_lt 22 dX1_has_1 (by decide) (fun b1 => ?_) (fun b1 => absurd h2 b1)
    refine ev_iconst (v := nI 0) dX1_has_22 rfl ?_
    refine ev_reti dX1_has_23 rfl rfl ?_
    exact e_retF (h1) hp
  · skip
    refine ev_iload_n (i := 1) dX1_has_0 rfl rfl ?_
    refine ev_if_lt 22 dX1_has_1 (by decide) (fun b1 => absurd b1 h2) (fun b1 => ?_)
    refine ev_iload_n (i := 1) dX1_has_4 rfl rfl ?_
    refine ev_aload_n (i := 0) dX1_has_5 rfl rfl ?_
    refine ev_getfield dX1_has_6 fX1_24 (by first | omega | decide) (by first | assumption | (simp (disch := omega) only [mu_s, mu_n]; first | assumption | rfl)) (by rfl) ?_
    refine ev_icmp_ge 22 dX1_has_9 (by decide) (fun b9 => ?_) (fun b9 => absurd h3 b9)
    refine ev_iconst (v := nI 0) dX1_has_22 rfl ?_
    refine ev_reti dX1_has_23 rfl rfl ?_
    exact e_retF (h1) hp
theorem e_has {l n : Nat} (h : l < n) (hn : n < 2 ^ 31) : inR (nI l) n = true := by rw [inR_nI (by omega)]; exact decide_eq_true h
theorem c_X1_all (hL : kLt M t) (ho : ltOk t) (hp : P (some (.int (nI (2 ^ t.1 - 1)))) M) : Ev 88 d mX1_all none 0 [.ref 3] [] M P := by
  have h6 := ho.1
  have h3 := hL.1
  refine ev_iconst (v := nI 1) dX1_all_0 rfl ?_
  refine ev_aload_n (i := 0) dX1_all_1 rfl rfl ?_
  refine ev_getfield dX1_all_2 fX1_24 (by first | omega | decide) (by first | assumption | (simp (disch := omega) only [mu_s, mu_n]; first | assumption | rfl)) (by rfl) ?_
  refine ev_ishl1 dX1_all_5 (by omega) ?_
  refine ev_iconst (v := nI 1) dX1_all_6 rfl ?_
  refine ev_isubN dX1_all_7 (Nat.one_le_two_pow) ?_
  refine ev_reti dX1_all_8 rfl rfl ?_
  exact hp
theorem c_X1_placeOf {l : Nat} (hL : kLt M t) (ho : ltOk t) (hl : l < t.1) (hp : P (some (.int (nI (t.2.1 l)))) M) : Ev 88 (d + 1) mX1_placeOf none 0 [.ref 3, .int (nI l)] [] M P := by
  have h6 := ho.1
  have h3 := hL.1
  obtain ⟨f, ha, hf⟩ := hL.2.1
  have hb := e_has hl (by omega)
  rw [← hf l hl] at hp
  refine ev_aload_n (i := 0) dX1_placeOf_0 rfl rfl ?_
  refine ev_iload_n (i := 1) dX1_placeOf_1 rfl rfl ?_
  refine ev_V1 (μ1 := mX1_has) dX1_placeOf_2 sX1_35 okX1_has (by first | omega | decide) (by first | assumption | (simp (disch := omega) only [mu_s, mu_n]; first | assumption | rfl)) (Nat.le_of_ble_eq_true rfl) (Nat.le_of_ble_eq_true rfl) ?_
  refine c_X1_has hL ho ?_
  refine ev_if_eqB 17 dX1_placeOf_5 (by decide) (fun b5 => by rw [hb] at b5; cases b5) (fun b5 => ?_)
  refine ev_aload_n (i := 0) dX1_placeOf_8 rfl rfl ?_
  refine ev_getfield dX1_placeOf_9 fX1_9 (by first | omega | decide) (by first | assumption | (simp (disch := omega) only [mu_s, mu_n]; first | assumption | rfl)) (by rfl) ?_
  refine ev_iload_n (i := 1) dX1_placeOf_12 rfl rfl ?_
  refine ev_ialoadN dX1_placeOf_13 (by first | omega | decide) (by first | assumption | (simp (disch := omega) only [mu_s, mu_n]; first | assumption | rfl)) (by omega) (by decide) ?_
  refine ev_goto 18 dX1_placeOf_14 (by decide) ?_
  refine ev_reti dX1_placeOf_18 rfl rfl ?_
  exact hp
theorem c_X1_handOf {l : Nat} (hL : kLt M t) (ho : ltOk t) (hl : l < t.1) (hp : P (some (.int (nI (t.2.2.1 l)))) M) : Ev 88 (d + 1) mX1_handOf none 0 [.ref 3, .int (nI l)] [] M P := by
  have h6 := ho.1
  have h3 := hL.1
  obtain ⟨f, ha, hf⟩ := hL.2.2.1
  have hb := e_has hl (by omega)
  rw [← hf l hl] at hp
  refine ev_aload_n (i := 0) dX1_handOf_0 rfl rfl ?_
  refine ev_iload_n (i := 1) dX1_handOf_1 rfl rfl ?_
  refine ev_V1 (μ1 := mX1_has) dX1_handOf_2 sX1_35 okX1_has (by first | omega | decide) (by first | assumption | (simp (disch := omega) only [mu_s, mu_n]; first | assumption | rfl)) (Nat.le_of_ble_eq_true rfl) (Nat.le_of_ble_eq_true rfl) ?_
  refine c_X1_has hL ho ?_
  refine ev_if_eqB 17 dX1_handOf_5 (by decide) (fun b5 => by rw [hb] at b5; cases b5) (fun b5 => ?_)
  refine ev_aload_n (i := 0) dX1_handOf_8 rfl rfl ?_
  refine ev_getfield dX1_handOf_9 fX1_15 (by first | omega | decide) (by first | assumption | (simp (disch := omega) only [mu_s, mu_n]; first | assumption | rfl)) (by rfl) ?_
  refine ev_iload_n (i := 1) dX1_handOf_12 rfl rfl ?_
  refine ev_ialoadN dX1_handOf_13 (by first | omega | decide) (by first | assumption | (simp (disch := omega) only [mu_s, mu_n]; first | assumption | rfl)) (by omega) (by decide) ?_
  refine ev_goto 18 dX1_handOf_14 (by decide) ?_
  refine ev_reti dX1_handOf_18 rfl rfl ?_
  exact hp
theorem c_X1_forceOf {l : Nat} (hL : kLt M t) (ho : ltOk t) (hl : l < t.1) (hp : P (some (.int (nI (t.2.2.2.1 l)))) M) : Ev 88 (d + 1) mX1_forceOf none 0 [.ref 3, .int (nI l)] [] M P := by
  have h6 := ho.1
  have h3 := hL.1
  obtain ⟨f, ha, hf⟩ := hL.2.2.2.1
  have hb := e_has hl (by omega)
  rw [← hf l hl] at hp
  refine ev_aload_n (i := 0) dX1_forceOf_0 rfl rfl ?_
  refine ev_iload_n (i := 1) dX1_forceOf_1 rfl rfl ?_
  refine ev_V1 (μ1 := mX1_has) dX1_forceOf_2 sX1_35 okX1_has (by first | omega | decide) (by first | assumption | (simp (disch := omega) only [mu_s, mu_n]; first | assumption | rfl)) (Nat.le_of_ble_eq_true rfl) (Nat.le_of_ble_eq_true rfl) ?_
  refine c_X1_has hL ho ?_
  refine ev_if_eqB 17 dX1_forceOf_5 (by decide) (fun b5 => by rw [hb] at b5; cases b5) (fun b5 => ?_)
  refine ev_aload_n (i := 0) dX1_forceOf_8 rfl rfl ?_
  refine ev_getfield dX1_forceOf_9 fX1_18 (by first | omega | decide) (by first | assumption | (simp (disch := omega) only [mu_s, mu_n]; first | assumption | rfl)) (by rfl) ?_
  refine ev_iload_n (i := 1) dX1_forceOf_12 rfl rfl ?_
  refine ev_ialoadN dX1_forceOf_13 (by first | omega | decide) (by first | assumption | (simp (disch := omega) only [mu_s, mu_n]; first | assumption | rfl)) (by omega) (by decide) ?_
  refine ev_goto 18 dX1_forceOf_14 (by decide) ?_
  refine ev_reti dX1_forceOf_18 rfl rfl ?_
  exact hp
theorem c_X1_cellsOf {l : Nat} (hL : kLt M t) (ho : ltOk t) (hl : l < t.1) (hp : P (some (.int (nI (t.2.2.2.2 l)))) M) : Ev 88 (d + 1) mX1_cellsOf none 0 [.ref 3, .int (nI l)] [] M P := by
  have h6 := ho.1
  have h3 := hL.1
  obtain ⟨f, ha, hf⟩ := hL.2.2.2.2
  have hb := e_has hl (by omega)
  rw [← hf l hl] at hp
  refine ev_aload_n (i := 0) dX1_cellsOf_0 rfl rfl ?_
  refine ev_iload_n (i := 1) dX1_cellsOf_1 rfl rfl ?_
  refine ev_V1 (μ1 := mX1_has) dX1_cellsOf_2 sX1_35 okX1_has (by first | omega | decide) (by first | assumption | (simp (disch := omega) only [mu_s, mu_n]; first | assumption | rfl)) (Nat.le_of_ble_eq_true rfl) (Nat.le_of_ble_eq_true rfl) ?_
  refine c_X1_has hL ho ?_
  refine ev_if_eqB 17 dX1_cellsOf_5 (by decide) (fun b5 => by rw [hb] at b5; cases b5) (fun b5 => ?_)
  refine ev_aload_n (i := 0) dX1_cellsOf_8 rfl rfl ?_
  refine ev_getfield dX1_cellsOf_9 fX1_21 (by first | omega | decide) (by first | assumption | (simp (disch := omega) only [mu_s, mu_n]; first | assumption | rfl)) (by rfl) ?_
  refine ev_iload_n (i := 1) dX1_cellsOf_12 rfl rfl ?_
  refine ev_ialoadN dX1_cellsOf_13 (by first | omega | decide) (by first | assumption | (simp (disch := omega) only [mu_s, mu_n]; first | assumption | rfl)) (by omega) (by decide) ?_
  refine ev_goto 18 dX1_cellsOf_14 (by decide) ?_
  refine ev_reti dX1_cellsOf_18 rfl rfl ?_
  exact hp
theorem c_X1_windowOf {l : Nat} (hL : kLt M t) (ho : ltOk t) (hl : l < t.1) (hp : P (some (.int (nI (15 * 2 ^ t.2.1 l)))) M) : Ev 88 (d + 1) mX1_windowOf none 0 [.ref 3, .int (nI l)] [] M P := by
  have h6 := ho.1
  have h3 := hL.1
  obtain ⟨f, ha, hf⟩ := hL.2.1
  have hb := e_has hl (by omega)
  have h8 := (ho.2 l hl).1
  refine ev_aload_n (i := 0) dX1_windowOf_0 rfl rfl ?_
  refine ev_iload_n (i := 1) dX1_windowOf_1 rfl rfl ?_
  refine ev_V1 (μ1 := mX1_has) dX1_windowOf_2 sX1_35 okX1_has (by first | omega | decide) (by first | assumption | (simp (disch := omega) only [mu_s, mu_n]; first | assumption | rfl)) (Nat.le_of_ble_eq_true rfl) (Nat.le_of_ble_eq_true rfl) ?_
  refine c_X1_has hL ho ?_
  refine ev_if_eqB 20 dX1_windowOf_5 (by decide) (fun b5 => by rw [hb] at b5; cases b5) (fun b5 => ?_)
  refine ev_bipush (v := nI 15) dX1_windowOf_8 rfl ?_
  refine ev_aload_n (i := 0) dX1_windowOf_10 rfl rfl ?_
  refine ev_getfield dX1_windowOf_11 fX1_9 (by first | omega | decide) (by first | assumption | (simp (disch := omega) only [mu_s, mu_n]; first | assumption | rfl)) (by rfl) ?_
  refine ev_iload_n (i := 1) dX1_windowOf_14 rfl rfl ?_
  refine ev_ialoadN dX1_windowOf_15 (by first | omega | decide) (by first | assumption | (simp (disch := omega) only [mu_s, mu_n]; first | assumption | rfl)) (by omega) (by decide) ?_
  refine ev_top (i_op (hf l hl)) ?_
  refine ev_ishlN dX1_windowOf_16 (by omega) ?_
  refine ev_goto 21 dX1_windowOf_17 (by decide) ?_
  refine ev_reti dX1_windowOf_21 rfl rfl ?_
  exact hp
theorem c_X1_canBeRead {l s : Nat} (hL : kLt M t) (ho : ltOk t) (hl : l < t.1) (hp : P (some (.int (bI (rdN t s l)))) M) : Ev 88 (d + 1) mX1_canBeRead none 0 [.ref 3, .int (nI l), .int (nI s)] [] M P := by
  have h6 := ho.1
  have h3 := hL.1
  obtain ⟨f, ha, hf⟩ := hL.2.1
  obtain ⟨f7, ha7, hf7⟩ := hL.2.2.2.2
  have hb := e_has hl (by omega)
  have h8 := (ho.2 l hl).1
  have h9 := (ltOk_cells ho hl).1
  have h10 := ltOk_win ho hl
  refine ev_aload_n (i := 0) dX1_canBeRead_0 rfl rfl ?_
  refine ev_iload_n (i := 1) dX1_canBeRead_1 rfl rfl ?_
  refine ev_V1 (μ1 := mX1_has) dX1_canBeRead_2 sX1_35 okX1_has (by first | omega | decide) (by first | assumption | (simp (disch := omega) only [mu_s, mu_n]; first | assumption | rfl)) (Nat.le_of_ble_eq_true rfl) (Nat.le_of_ble_eq_true rfl) ?_
  refine c_X1_has hL ho ?_
  refine ev_if_eqB 32 dX1_canBeRead_5 (by decide) (fun b5 => by rw [hb] at b5; cases b5) (fun b5 => ?_)
  refine ev_iload_n (i := 2) dX1_canBeRead_8 rfl rfl ?_
  refine ev_bipush (v := nI 15) dX1_canBeRead_9 rfl ?_
  refine ev_aload_n (i := 0) dX1_canBeRead_11 rfl rfl ?_
  refine ev_getfield dX1_canBeRead_12 fX1_9 (by first | omega | decide) (by first | assumption | (simp (disch := omega) only [mu_s, mu_n]; first | assumption | rfl)) (by rfl) ?_
  refine ev_iload_n (i := 1) dX1_canBeRead_15 rfl rfl ?_
  refine ev_ialoadN dX1_canBeRead_16 (by first | omega | decide) (by first | assumption | (simp (disch := omega) only [mu_s, mu_n]; first | assumption | rfl)) (by omega) (by decide) ?_
  refine ev_top (i_op (hf l hl)) ?_
  refine ev_ishlN dX1_canBeRead_17 (by omega) ?_
  refine ev_iandN dX1_canBeRead_18 ?_
  refine ev_aload_n (i := 0) dX1_canBeRead_19 rfl rfl ?_
  refine ev_getfield dX1_canBeRead_20 fX1_21 (by first | omega | decide) (by first | assumption | (simp (disch := omega) only [mu_s, mu_n]; first | assumption | rfl)) (by rfl) ?_
  refine ev_iload_n (i := 1) dX1_canBeRead_23 rfl rfl ?_
  refine ev_ialoadN dX1_canBeRead_24 (by first | omega | decide) (by first | assumption | (simp (disch := omega) only [mu_s, mu_n]; first | assumption | rfl)) (by omega) (by decide) ?_
  refine ev_top (i_op (hf7 l hl)) ?_
  refine ev_icmp_neN 32 dX1_canBeRead_25 (by decide) (and_lt31 (by omega)) (by omega) (fun b25 => ?_) (fun b25 => ?_)
  · skip
    refine ev_iconst (v := nI 0) dX1_canBeRead_32 rfl ?_
    refine ev_reti dX1_canBeRead_33 rfl rfl ?_
    exact e_retF (decide_eq_false b25) hp
  · skip
    refine ev_iconst (v := nI 1) dX1_canBeRead_28 rfl ?_
    refine ev_goto 33 dX1_canBeRead_29 (by decide) ?_
    refine ev_reti dX1_canBeRead_33 rfl rfl ?_
    exact e_retT (decide_eq_true b25) hp
theorem c_X1_readable {s : Nat} (hL : kLt M t) (ho : ltOk t) (hp : P (some (.int (nI (rdSet t s)))) M) : Ev 88 (d + 2) mX1_readable none 0 [.ref 3, .int (nI s), .null, .null] [] M P := by
  have h6 := ho.1
  have h3 := hL.1
  have lp : ∀ (j c acc : Nat), c + j = t.1 → acc = bN (rdN t s) c → Ev 88 (d + 2) mX1_readable none 4 [.ref 3, .int (nI s), .int (nI acc), .int (nI c)] [] M P := by
    intro j
    induction j with
    | zero =>
      intro c acc hc ha
      obtain rfl : c = t.1 := by omega
      subst ha
      refine ev_iload_n (i := 3) dX1_readable_4 rfl rfl ?_
      refine ev_aload_n (i := 0) dX1_readable_5 rfl rfl ?_
      refine ev_getfield dX1_readable_6 fX1_24 (by first | omega | decide) (by first | assumption | (simp (disch := omega) only [mu_s, mu_n]; first | assumption | rfl)) (by rfl) ?_
      refine ev_icmp_geN 33 dX1_readable_9 (by decide) (by omega) (by omega) (fun b9 => ?_) (fun b9 => by exfalso; omega)
      refine ev_iload_n (i := 2) dX1_readable_33 rfl rfl ?_
      refine ev_reti dX1_readable_34 rfl rfl ?_
      exact hp
    | succ j ih =>
      intro c acc hc ha
      refine ev_iload_n (i := 3) dX1_readable_4 rfl rfl ?_
      refine ev_aload_n (i := 0) dX1_readable_5 rfl rfl ?_
      refine ev_getfield dX1_readable_6 fX1_24 (by first | omega | decide) (by first | assumption | (simp (disch := omega) only [mu_s, mu_n]; first | assumption | rfl)) (by rfl) ?_
      refine ev_icmp_geN 33 dX1_readable_9 (by decide) (by omega) (by omega) (fun b9 => by exfalso; omega) (fun b9 => ?_)
      refine ev_aload_n (i := 0) dX1_readable_12 rfl rfl ?_
      refine ev_iload_n (i := 3) dX1_readable_13 rfl rfl ?_
      refine ev_iload_n (i := 1) dX1_readable_14 rfl rfl ?_
      refine ev_V2 (μ1 := mX1_canBeRead) dX1_readable_15 sX1_39 okX1_canBeRead (by first | omega | decide) (by first | assumption | (simp (disch := omega) only [mu_s, mu_n]; first | assumption | rfl)) (Nat.le_of_ble_eq_true rfl) (Nat.le_of_ble_eq_true rfl) ?_
      refine c_X1_canBeRead hL ho (by omega) ?_
      refine ev_if_eqB 27 dX1_readable_18 (by decide) (fun b18 => ?_) (fun b18 => ?_)
      · skip
        refine ev_incN dX1_readable_27 (by rfl) (by decide) rfl ?_
        refine ev_goto 4 dX1_readable_30 (by decide) ?_
        first
        | exact ih _ _ (by omega) (ha.trans (bN_f (by rw [b18]; decide)))
        | exact ih _ _ (by omega) (by rw [ha]; exact bN_t b18)
      · skip
        refine ev_iload_n (i := 2) dX1_readable_21 rfl rfl ?_
        refine ev_iconst (v := nI 1) dX1_readable_22 rfl ?_
        refine ev_iload_n (i := 3) dX1_readable_23 rfl rfl ?_
        refine ev_ishl1 dX1_readable_24 (by omega) ?_
        refine ev_iorN dX1_readable_25 ?_
        refine ev_istore_n (i := 2) dX1_readable_26 rfl (by decide) rfl ?_
        refine ev_incN dX1_readable_27 (by rfl) (by decide) rfl ?_
        refine ev_goto 4 dX1_readable_30 (by decide) ?_
        first
        | exact ih _ _ (by omega) (ha.trans (bN_f (by rw [b18]; decide)))
        | exact ih _ _ (by omega) (by rw [ha]; exact bN_t b18)
  refine ev_iconst (v := nI 0) dX1_readable_0 rfl ?_
  refine ev_istore_n (i := 2) dX1_readable_1 rfl (by decide) rfl ?_
  refine ev_iconst (v := nI 0) dX1_readable_2 rfl ?_
  refine ev_istore_n (i := 3) dX1_readable_3 rfl (by decide) rfl ?_
  exact lp t.1 0 0 (by omega) rfl
theorem c_X1_shownBy {s : Nat} (hL : kLt M t) (ho : ltOk t) (hs : s < 2 ^ 31) (hp : P (some (.int (nI (shBy t s)))) M) : Ev 88 (d + 2) mX1_shownBy none 0 [.ref 3, .int (nI s), .null, .null] [] M P := by
  have h6 := ho.1
  have h3 := hL.1
  have lp : ∀ (j c acc : Nat), c + j = t.1 → acc = oN (fun l => s.testBit l && decide (t.2.2.2.1 l ≠ 0)) t.2.2.2.2 c → Ev 88 (d + 2) mX1_shownBy none 4 [.ref 3, .int (nI s), .int (nI acc), .int (nI c)] [] M P := by
    intro j
    induction j with
    | zero =>
      intro c acc hc ha
      obtain rfl : c = t.1 := by omega
      subst ha
      refine ev_iload_n (i := 3) dX1_shownBy_4 rfl rfl ?_
      refine ev_aload_n (i := 0) dX1_shownBy_5 rfl rfl ?_
      refine ev_getfield dX1_shownBy_6 fX1_24 (by first | omega | decide) (by first | assumption | (simp (disch := omega) only [mu_s, mu_n]; first | assumption | rfl)) (by rfl) ?_
      refine ev_icmp_geN 43 dX1_shownBy_9 (by decide) (by omega) (by omega) (fun b9 => ?_) (fun b9 => by exfalso; omega)
      refine ev_iload_n (i := 2) dX1_shownBy_43 rfl rfl ?_
      refine ev_reti dX1_shownBy_44 rfl rfl ?_
      exact hp
    | succ j ih =>
      intro c acc hc ha
      have hc1 : c < t.1 := by omega
      have h4 := (ho.2 c hc1).2.2.1
      refine ev_iload_n (i := 3) dX1_shownBy_4 rfl rfl ?_
      refine ev_aload_n (i := 0) dX1_shownBy_5 rfl rfl ?_
      refine ev_getfield dX1_shownBy_6 fX1_24 (by first | omega | decide) (by first | assumption | (simp (disch := omega) only [mu_s, mu_n]; first | assumption | rfl)) (by rfl) ?_
      refine ev_icmp_geN 43 dX1_shownBy_9 (by decide) (by omega) (by omega) (fun b9 => by exfalso; omega) (fun b9 => ?_)
      refine ev_iload_n (i := 1) dX1_shownBy_12 rfl rfl ?_
      refine ev_iload_n (i := 3) dX1_shownBy_13 rfl rfl ?_
      refine ev_ishrN dX1_shownBy_14 (by omega) (by omega) ?_
      refine ev_iconst (v := nI 1) dX1_shownBy_15 rfl ?_
      refine ev_iand1 dX1_shownBy_16 ?_
      refine ev_iconst (v := nI 1) dX1_shownBy_17 rfl ?_
      refine ev_icmp_neN 37 dX1_shownBy_18 (by decide) (by omega) (by omega) (fun b18 => ?_) (fun b18 => ?_)
      · skip
        refine ev_incN dX1_shownBy_37 (by rfl) (by decide) rfl ?_
        refine ev_goto 4 dX1_shownBy_40 (by decide) ?_
        first
        | exact ih _ _ (by omega) (ha.trans (oN_f (by rw [ne_eq, tb_d] at b18; simp [b18])))
        | exact ih _ _ (by omega) (ha.trans (oN_f (by simp [b26])))
        | exact ih _ _ (by omega) (by rw [ha]; exact oN_t (by rw [tb_d] at b18; simp [b18, b26]))
      · skip
        refine ev_aload_n (i := 0) dX1_shownBy_21 rfl rfl ?_
        refine ev_iload_n (i := 3) dX1_shownBy_22 rfl rfl ?_
        refine ev_V1 (μ1 := mX1_forceOf) dX1_shownBy_23 sX1_43 okX1_forceOf (by first | omega | decide) (by first | assumption | (simp (disch := omega) only [mu_s, mu_n]; first | assumption | rfl)) (Nat.le_of_ble_eq_true rfl) (Nat.le_of_ble_eq_true rfl) ?_
        refine c_X1_forceOf hL ho hc1 ?_
        refine ev_if_eqN 37 dX1_shownBy_26 (by decide) (by omega) (fun b26 => ?_) (fun b26 => ?_)
        · skip
          refine ev_incN dX1_shownBy_37 (by rfl) (by decide) rfl ?_
          refine ev_goto 4 dX1_shownBy_40 (by decide) ?_
          first
          | exact ih _ _ (by omega) (ha.trans (oN_f (by rw [ne_eq, tb_d] at b18; simp [b18])))
          | exact ih _ _ (by omega) (ha.trans (oN_f (by simp [b26])))
          | exact ih _ _ (by omega) (by rw [ha]; exact oN_t (by rw [tb_d] at b18; simp [b18, b26]))
        · skip
          refine ev_iload_n (i := 2) dX1_shownBy_29 rfl rfl ?_
          refine ev_aload_n (i := 0) dX1_shownBy_30 rfl rfl ?_
          refine ev_iload_n (i := 3) dX1_shownBy_31 rfl rfl ?_
          refine ev_V1 (μ1 := mX1_cellsOf) dX1_shownBy_32 sX1_47 okX1_cellsOf (by first | omega | decide) (by first | assumption | (simp (disch := omega) only [mu_s, mu_n]; first | assumption | rfl)) (Nat.le_of_ble_eq_true rfl) (Nat.le_of_ble_eq_true rfl) ?_
          refine c_X1_cellsOf hL ho hc1 ?_
          refine ev_iorN dX1_shownBy_35 ?_
          refine ev_istore_n (i := 2) dX1_shownBy_36 rfl (by decide) rfl ?_
          refine ev_incN dX1_shownBy_37 (by rfl) (by decide) rfl ?_
          refine ev_goto 4 dX1_shownBy_40 (by decide) ?_
          first
          | exact ih _ _ (by omega) (ha.trans (oN_f (by rw [ne_eq, tb_d] at b18; simp [b18])))
          | exact ih _ _ (by omega) (ha.trans (oN_f (by simp [b26])))
          | exact ih _ _ (by omega) (by rw [ha]; exact oN_t (by rw [tb_d] at b18; simp [b18, b26]))
  refine ev_iconst (v := nI 0) dX1_shownBy_0 rfl ?_
  refine ev_istore_n (i := 2) dX1_shownBy_1 rfl (by decide) rfl ?_
  refine ev_iconst (v := nI 0) dX1_shownBy_2 rfl ?_
  refine ev_istore_n (i := 3) dX1_shownBy_3 rfl (by decide) rfl ?_
  exact lp t.1 0 0 (by omega) rfl
theorem c_X1_showing {c : Nat} (hL : kLt M t) (ho : ltOk t) (hc : c < 32) (hp : P (some (.int (nI (shwN t c)))) M) : Ev 88 (d + 3) mX1_showing none 0 [.ref 3, .int (nI c), .null, .null] [] M P := by
  have h6 := ho.1
  have h3 := hL.1
  have lp : ∀ (j i acc : Nat), i + j = t.1 → acc = sN (fun l => shBy t (2 ^ l) / 2 ^ c % 2) i → Ev 88 (d + 3) mX1_showing none 4 [.ref 3, .int (nI c), .int (nI acc), .int (nI i)] [] M P := by
    intro j
    induction j with
    | zero =>
      intro i acc hi ha
      obtain rfl : i = t.1 := by omega
      subst ha
      refine ev_iload_n (i := 3) dX1_showing_4 rfl rfl ?_
      refine ev_aload_n (i := 0) dX1_showing_5 rfl rfl ?_
      refine ev_getfield dX1_showing_6 fX1_24 (by first | omega | decide) (by first | assumption | (simp (disch := omega) only [mu_s, mu_n]; first | assumption | rfl)) (by rfl) ?_
      refine ev_icmp_geN 32 dX1_showing_9 (by decide) (by omega) (by omega) (fun b9 => ?_) (fun b9 => by exfalso; omega)
      refine ev_iload_n (i := 2) dX1_showing_32 rfl rfl ?_
      refine ev_reti dX1_showing_33 rfl rfl ?_
      exact hp
    | succ j ih =>
      intro i acc hi ha
      have h9 := shBy_lt ho (2 ^ i)
      refine ev_iload_n (i := 3) dX1_showing_4 rfl rfl ?_
      refine ev_aload_n (i := 0) dX1_showing_5 rfl rfl ?_
      refine ev_getfield dX1_showing_6 fX1_24 (by first | omega | decide) (by first | assumption | (simp (disch := omega) only [mu_s, mu_n]; first | assumption | rfl)) (by rfl) ?_
      refine ev_icmp_geN 32 dX1_showing_9 (by decide) (by omega) (by omega) (fun b9 => by exfalso; omega) (fun b9 => ?_)
      refine ev_iload_n (i := 2) dX1_showing_12 rfl rfl ?_
      refine ev_aload_n (i := 0) dX1_showing_13 rfl rfl ?_
      refine ev_iconst (v := nI 1) dX1_showing_14 rfl ?_
      refine ev_iload_n (i := 3) dX1_showing_15 rfl rfl ?_
      refine ev_ishl1 dX1_showing_16 (by omega) ?_
      refine ev_V1 (μ1 := mX1_shownBy) dX1_showing_17 sX1_50 okX1_shownBy (by first | omega | decide) (by first | assumption | (simp (disch := omega) only [mu_s, mu_n]; first | assumption | rfl)) (Nat.le_of_ble_eq_true rfl) (Nat.le_of_ble_eq_true rfl) ?_
      refine c_X1_shownBy hL ho (Nat.lt_of_le_of_lt (pw_le (show i ≤ 6 by omega)) (by decide)) ?_
      refine ev_iload_n (i := 1) dX1_showing_20 rfl rfl ?_
      refine ev_ishrN dX1_showing_21 (by omega) (by omega) ?_
      refine ev_iconst (v := nI 1) dX1_showing_22 rfl ?_
      refine ev_iand1 dX1_showing_23 ?_
      refine ev_iaddN dX1_showing_24 ?_
      refine ev_istore_n (i := 2) dX1_showing_25 rfl (by decide) rfl ?_
      refine ev_incN dX1_showing_26 (by rfl) (by decide) rfl ?_
      refine ev_goto 4 dX1_showing_29 (by decide) ?_
      exact ih _ _ (by omega) (by rw [ha]; rfl)
  refine ev_iconst (v := nI 0) dX1_showing_0 rfl ?_
  refine ev_istore_n (i := 2) dX1_showing_1 rfl (by decide) rfl ?_
  refine ev_iconst (v := nI 0) dX1_showing_2 rfl ?_
  refine ev_istore_n (i := 3) dX1_showing_3 rfl (by decide) rfl ?_
  exact lp t.1 0 0 (by omega) rfl
end LET
