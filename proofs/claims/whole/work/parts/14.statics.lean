/-! ===== the class's static methods, and those over its letters ===== -/
def kRt (M : mM) (sd : Int64) : Prop := M 0 = .inr (7, [.ref 1, .ref 3, .ref 8, .ref 11, .ref 14, .ref 58, .ref 62, .ref 70, .long sd])
theorem kLt_ag {M M1 : mM} {a b : Nat} {t : lt} (h : kLt M t) (hg : ag M M1 a b) (hx : b ≤ 3 ∨ 8 ≤ a) : kLt M1 t := ⟨(hg _ (by omega)).trans h.1, arr_ag h.2.1 hg (by omega), arr_ag h.2.2.1 hg (by omega), arr_ag h.2.2.2.1 hg (by omega), arr_ag h.2.2.2.2 hg (by omega)⟩
def toldI (w many a n : Nat) : Int32 := if w = 0 then nI many else if many = 0 then (-9) else if w = 1 then nI a else nI n
theorem sub_pos {a b : Nat} (ha : a < 2 ^ 30) (hb : b < 2 ^ 30) : 0 < nI a - nI b ↔ b < a := by
  rw [Int32.lt_iff_toInt_lt, pk_sub_toInt ha hb, Int32.toInt_zero]
  omega
theorem sub_eq0 {a b : Nat} (ha : a < 2 ^ 30) (hb : b < 2 ^ 30) : nI a - nI b = 0 ↔ a = b := by
  rw [← Int32.toInt_inj, pk_sub_toInt ha hb, Int32.toInt_zero]
  omega
def roN (t : lt) (s : Nat) : Nat := cnt (s &&& rdSet t (shBy t s))
def kmB (t : lt) (s b : Nat) : Bool := decide (roN t b < roN t s ∨ roN t s = roN t b ∧ cnt s < cnt b)
def itN (t : lt) (o : Nat → Nat) (c : Nat) : Nat := min 9 (sN (fun l => if (t.2.2.2.2 l).testBit c = true then o l * t.2.2.2.1 l else 0) t.1)
def allB (p : Nat → Bool) : Nat → Bool
  | 0 => true
  | n + 1 => allB p n && p n
theorem allB_t {p : Nat → Bool} : ∀ {n : Nat}, (∀ i, i < n → p i = true) → allB p n = true
  | 0, _ => rfl
  | n + 1, h => by
    unfold allB
    rw [allB_t (fun i hi => h i (by omega)), h n (by omega)]; rfl
theorem allB_f {p : Nat → Bool} : ∀ {n i : Nat}, i < n → p i = false → allB p n = false
  | n + 1, i, hi, h => by
    unfold allB
    by_cases e : i = n
    · rw [← e, h, Bool.and_false]
    · rw [allB_f (show i < n by omega) h]; rfl
theorem sN_s {g : Nat → Nat} {n y : Nat} (h : g n = y) : sN g n + y = sN g (n + 1) := by rw [← h]; rfl
theorem sN_z {g : Nat → Nat} {n : Nat} (h : g n = 0) : sN g n = sN g (n + 1) := sN_s h
def tgB (t : lt) (p : pg) (o : Nat → Nat) : Bool := allB (fun c => decide (p.1 c = itN t o c)) 12
def thN (t : lt) (i j : Nat) : Option Nat := lf (fun k => decide (k ≠ i) && decide (k ≠ j) && rdN t (shBy t (2 ^ i ||| 2 ^ j)) k) t.1 0
def clkI (f d : Nat) : Int32 := if d < f then nI (2 * f) - nI 5 else nI (2 * f)
def audI (f d : Nat) : Int32 := if d < f then nI 4 - nI d else -nI d
def cpB (h f : Nat) : Bool := !(decide (h = 2) && decide (f < 1)) && !(decide (h = 1) && decide (2 < f))
def arB (h f d : Nat) : Bool := cpB h f && allB (fun o => !(cpB h o && decide (clkI f d < clkI o d)) && !decide (audI f d < audI f o)) 4
section STA
variable {d : Nat} {M : mM} {P : Option Value → mM → Prop} {t : lt} {sd : Int64}
theorem c_told {w many a n : Nat} (hw : w < 2 ^ 31) (hm : many < 2 ^ 31) (hp : P (some (.int (toldI w many a n))) M) : Ev 88 d mX7_told none 0 [.int (nI w), .int (nI many), .int (nI a), .int (nI n)] [] M P := by
  unfold toldI at hp
  by_cases h0 : w = 0
  · rw [if_pos h0] at hp
    refine ev_iload_n (i := 0) dX7_told_0 rfl rfl ?_
    refine ev_if_neN 6 dX7_told_1 (by decide) (by omega) (fun b1 => by exfalso; omega) (fun b1 => ?_)
    refine ev_iload_n (i := 1) dX7_told_4 rfl rfl ?_
    refine ev_reti dX7_told_5 rfl rfl ?_
    exact hp
  · rw [if_neg h0] at hp
    by_cases h1 : many = 0
    · rw [if_pos h1] at hp
      refine ev_iload_n (i := 0) dX7_told_0 rfl rfl ?_
      refine ev_if_neN 6 dX7_told_1 (by decide) (by omega) (fun b1 => ?_) (fun b1 => by exfalso; omega)
      refine ev_iload_n (i := 1) dX7_told_6 rfl rfl ?_
      refine ev_if_neN 13 dX7_told_7 (by decide) (by omega) (fun b7 => by exfalso; omega) (fun b7 => ?_)
      refine ev_bipush (v := (-9)) dX7_told_10 rfl ?_
      refine ev_reti dX7_told_12 rfl rfl ?_
      exact hp
    · rw [if_neg h1] at hp
      by_cases h2 : w = 1
      · rw [if_pos h2] at hp
        refine ev_iload_n (i := 0) dX7_told_0 rfl rfl ?_
        refine ev_if_neN 6 dX7_told_1 (by decide) (by omega) (fun b1 => ?_) (fun b1 => by exfalso; omega)
        refine ev_iload_n (i := 1) dX7_told_6 rfl rfl ?_
        refine ev_if_neN 13 dX7_told_7 (by decide) (by omega) (fun b7 => ?_) (fun b7 => by exfalso; omega)
        refine ev_iload_n (i := 0) dX7_told_13 rfl rfl ?_
        refine ev_iconst (v := nI 1) dX7_told_14 rfl ?_
        refine ev_icmp_neN 22 dX7_told_15 (by decide) (by omega) (by omega) (fun b15 => by exfalso; omega) (fun b15 => ?_)
        refine ev_iload_n (i := 2) dX7_told_18 rfl rfl ?_
        refine ev_goto 23 dX7_told_19 (by decide) ?_
        refine ev_reti dX7_told_23 rfl rfl ?_
        exact hp
      · rw [if_neg h2] at hp
        refine ev_iload_n (i := 0) dX7_told_0 rfl rfl ?_
        refine ev_if_neN 6 dX7_told_1 (by decide) (by omega) (fun b1 => ?_) (fun b1 => by exfalso; omega)
        refine ev_iload_n (i := 1) dX7_told_6 rfl rfl ?_
        refine ev_if_neN 13 dX7_told_7 (by decide) (by omega) (fun b7 => ?_) (fun b7 => by exfalso; omega)
        refine ev_iload_n (i := 0) dX7_told_13 rfl rfl ?_
        refine ev_iconst (v := nI 1) dX7_told_14 rfl ?_
        refine ev_icmp_neN 22 dX7_told_15 (by decide) (by omega) (by omega) (fun b15 => ?_) (fun b15 => by exfalso; omega)
        refine ev_iload_n (i := 3) dX7_told_22 rfl rfl ?_
        refine ev_reti dX7_told_23 rfl rfl ?_
        exact hp
theorem and_lt {a b w : Nat} (h : a < w) : a &&& b < w := Nat.lt_of_le_of_lt Nat.and_le_left h
theorem c_readOf {s : Nat} (hR : kRt M sd) (hL : kLt M t) (ho : ltOk t) (hs : s < 4096) (hp : P (some (.int (nI (roN t s)))) M) : Ev 88 (d + 3) mX7_readOf none 0 [.ref 0, .int (nI s)] [] M P := by
  have h3 := hL.1
  unfold kRt at hR
  refine ev_iload_n (i := 1) dX7_readOf_0 rfl rfl ?_
  refine ev_aload_n (i := 0) dX7_readOf_1 rfl rfl ?_
  refine ev_getfield dX7_readOf_2 fX7_19 (by first | omega | decide) (by first | assumption | (simp (disch := omega) only [mu_s, mu_n]; first | assumption | rfl)) (by rfl) ?_
  refine ev_aload_n (i := 0) dX7_readOf_5 rfl rfl ?_
  refine ev_getfield dX7_readOf_6 fX7_19 (by first | omega | decide) (by first | assumption | (simp (disch := omega) only [mu_s, mu_n]; first | assumption | rfl)) (by rfl) ?_
  refine ev_iload_n (i := 1) dX7_readOf_9 rfl rfl ?_
  refine ev_V1 (μ1 := mX1_shownBy) dX7_readOf_10 sX7_163 okX1_shownBy (by first | omega | decide) (by first | assumption | (simp (disch := omega) only [mu_s, mu_n]; first | assumption | rfl)) (Nat.le_of_ble_eq_true rfl) (Nat.le_of_ble_eq_true rfl) ?_
  refine c_X1_shownBy hL ho (by omega) ?_
  refine ev_V1 (μ1 := mX1_readable) dX7_readOf_13 sX7_100 okX1_readable (by first | omega | decide) (by first | assumption | (simp (disch := omega) only [mu_s, mu_n]; first | assumption | rfl)) (Nat.le_of_ble_eq_true rfl) (Nat.le_of_ble_eq_true rfl) ?_
  refine c_X1_readable hL ho ?_
  refine ev_iandN dX7_readOf_16 ?_
  refine ev_S1 (μ1 := mJ6_bitCount_0f7a4) dX7_readOf_17 sX7_144 okJ6_bitCount_0f7a4 (Nat.le_of_ble_eq_true rfl) (Nat.le_of_ble_eq_true rfl) ?_
  refine c_bitCount (and_lt hs) ?_
  refine ev_reti dX7_readOf_20 rfl rfl ?_
  exact hp
theorem c_keepsMore {s b : Nat} (hR : kRt M sd) (hL : kLt M t) (ho : ltOk t) (hs : s < 4096) (hb : b < 4096) (hp : P (some (.int (bI (kmB t s b)))) M) : Ev 88 (d + 4) mX7_keepsMore none 0 [.ref 0, .int (nI s), .int (nI b), .null] [] M P := by
  have hR0 := hR
  unfold kRt at hR0
  have e1 : roN t s ≤ 12 := cnt_le _
  have e2 : roN t b ≤ 12 := cnt_le _
  have e3 := cnt_le s
  have e4 := cnt_le b
  have g1 := sub_pos (a := roN t s) (b := roN t b) (by omega) (by omega)
  have g2 := sub_eq0 (a := roN t s) (b := roN t b) (by omega) (by omega)
  refine ev_aload_n (i := 0) dX7_keepsMore_0 rfl rfl ?_
  refine ev_iload_n (i := 1) dX7_keepsMore_1 rfl rfl ?_
  refine ev_V1 (μ1 := mX7_readOf) dX7_keepsMore_2 sX7_173 okX7_readOf (by first | omega | decide) (by first | assumption | (simp (disch := omega) only [mu_s, mu_n]; first | assumption | rfl)) (Nat.le_of_ble_eq_true rfl) (Nat.le_of_ble_eq_true rfl) ?_
  first | refine c_readOf hR hL ho hs ?_ | refine c_readOf hR hL ho hb ?_
  refine ev_aload_n (i := 0) dX7_keepsMore_5 rfl rfl ?_
  refine ev_iload_n (i := 2) dX7_keepsMore_6 rfl rfl ?_
  refine ev_V1 (μ1 := mX7_readOf) dX7_keepsMore_7 sX7_173 okX7_readOf (by first | omega | decide) (by first | assumption | (simp (disch := omega) only [mu_s, mu_n]; first | assumption | rfl)) (Nat.le_of_ble_eq_true rfl) (Nat.le_of_ble_eq_true rfl) ?_
  first | refine c_readOf hR hL ho hs ?_ | refine c_readOf hR hL ho hb ?_
  refine ev_isub dX7_keepsMore_10 ?_
  refine ev_istore_n (i := 3) dX7_keepsMore_11 rfl (by decide) rfl ?_
  refine ev_iload_n (i := 3) dX7_keepsMore_12 rfl rfl ?_
  refine ev_if_gt 31 dX7_keepsMore_13 (by decide) (fun b13 => ?_) (fun b13 => ?_)
  · skip
    refine ev_iconst (v := nI 1) dX7_keepsMore_31 rfl ?_
    refine ev_goto 36 dX7_keepsMore_32 (by decide) ?_
    refine ev_reti dX7_keepsMore_36 rfl rfl ?_
    exact e_retT (by first | exact decide_eq_true (Or.inl (g1.mp b13)) | exact decide_eq_true (Or.inr ⟨g2.mp b17, b28⟩)) hp
  · skip
    refine ev_iload_n (i := 3) dX7_keepsMore_16 rfl rfl ?_
    refine ev_if_ne 35 dX7_keepsMore_17 (by decide) (fun b17 => ?_) (fun b17 => ?_)
    · skip
      refine ev_iconst (v := nI 0) dX7_keepsMore_35 rfl ?_
      refine ev_reti dX7_keepsMore_36 rfl rfl ?_
      exact e_retF (by first | (have q : ¬ nI (roN t s) - nI (roN t b) = 0 := b17; exact decide_eq_false (fun z => by rcases z with z | z; exact b13 (g1.mpr z); exact q (g2.mpr z.1))) | (have q : cnt b ≤ cnt s := b28; exact decide_eq_false (fun z => by rcases z with z | z; exact b13 (g1.mpr z); omega))) hp
    · skip
      refine ev_iload_n (i := 1) dX7_keepsMore_20 rfl rfl ?_
      refine ev_S1 (μ1 := mJ6_bitCount_0f7a4) dX7_keepsMore_21 sX7_144 okJ6_bitCount_0f7a4 (Nat.le_of_ble_eq_true rfl) (Nat.le_of_ble_eq_true rfl) ?_
      refine c_bitCount hs ?_
      refine ev_iload_n (i := 2) dX7_keepsMore_24 rfl rfl ?_
      refine ev_S1 (μ1 := mJ6_bitCount_0f7a4) dX7_keepsMore_25 sX7_144 okJ6_bitCount_0f7a4 (Nat.le_of_ble_eq_true rfl) (Nat.le_of_ble_eq_true rfl) ?_
      refine c_bitCount hb ?_
      refine ev_icmp_geN 35 dX7_keepsMore_28 (by decide) (by omega) (by omega) (fun b28 => ?_) (fun b28 => ?_)
      · skip
        refine ev_iconst (v := nI 0) dX7_keepsMore_35 rfl ?_
        refine ev_reti dX7_keepsMore_36 rfl rfl ?_
        exact e_retF (by first | (have q : ¬ nI (roN t s) - nI (roN t b) = 0 := b17; exact decide_eq_false (fun z => by rcases z with z | z; exact b13 (g1.mpr z); exact q (g2.mpr z.1))) | (have q : cnt b ≤ cnt s := b28; exact decide_eq_false (fun z => by rcases z with z | z; exact b13 (g1.mpr z); omega))) hp
      · skip
        refine ev_iconst (v := nI 1) dX7_keepsMore_31 rfl ?_
        refine ev_goto 36 dX7_keepsMore_32 (by decide) ?_
        refine ev_reti dX7_keepsMore_36 rfl rfl ?_
        exact e_retT (by first | exact decide_eq_true (Or.inl (g1.mp b13)) | exact decide_eq_true (Or.inr ⟨g2.mp b17, b28⟩)) hp
theorem itN_le {o : Nat → Nat} (ho : ltOk t) (h2 : ∀ l, l < 6 → o l ≤ 2) (c : Nat) (n : Nat) (hn : n ≤ t.1) : sN (fun l => if (t.2.2.2.2 l).testBit c = true then o l * t.2.2.2.1 l else 0) n ≤ n * 8 := sN_le (fun i hi => by
  have h1 := ho.1
  have h3 := h2 i (by omega)
  have h4 := (ho.2 i (by omega)).2.2.1
  show (if (t.2.2.2.2 i).testBit c = true then o i * t.2.2.2.1 i else 0) ≤ 8
  split
  · exact Nat.le_trans (Nat.mul_le_mul h3 h4) (by decide)
  · omega)
theorem c_inkByTimes {o : Nat → Nat} {c : Nat} (hR : kRt M sd) (hL : kLt M t) (ho : ltOk t) (hT : kTm M o) (h2 : ∀ l, l < 6 → o l ≤ 2) (hc : c < 12) (hp : P (some (.int (nI (itN t o c)))) M) : Ev 88 (d + 2) mX7_inkByTimes none 0 [.ref 0, .int (nI c), .null, .null] [] M P := by
  have h3 := hL.1
  have h6 := ho.1
  have hT0 := hT.1
  unfold kRt at hR
  have lp : ∀ (j i acc : Nat), i + j = t.1 → acc = sN (fun l => if (t.2.2.2.2 l).testBit c = true then o l * t.2.2.2.1 l else 0) i → Ev 88 (d + 2) mX7_inkByTimes none 4 [.ref 0, .int (nI c), .int (nI acc), .int (nI i)] [] M P := by
    intro j
    induction j with
    | zero =>
      intro i acc hi ha
      obtain rfl : i = t.1 := by omega
      have hle := itN_le ho h2 c t.1 (Nat.le_refl _)
      subst ha
      refine ev_iload_n (i := 3) dX7_inkByTimes_4 rfl rfl ?_
      refine ev_aload_n (i := 0) dX7_inkByTimes_5 rfl rfl ?_
      refine ev_getfield dX7_inkByTimes_6 fX7_19 (by first | omega | decide) (by first | assumption | (simp (disch := omega) only [mu_s, mu_n]; first | assumption | rfl)) (by rfl) ?_
      refine ev_getfield dX7_inkByTimes_9 fX7_90 (by first | omega | decide) (by first | assumption | (simp (disch := omega) only [mu_s, mu_n]; first | assumption | rfl)) (by rfl) ?_
      refine ev_icmp_geN 57 dX7_inkByTimes_12 (by decide) (by omega) (by omega) (fun b12 => ?_) (fun b12 => by exfalso; omega)
      refine ev_bipush (v := nI 9) dX7_inkByTimes_57 rfl ?_
      refine ev_iload_n (i := 2) dX7_inkByTimes_59 rfl rfl ?_
      refine ev_min dX7_inkByTimes_60 sX7_259 (by omega) (Nat.le_of_ble_eq_true rfl) ?_
      refine ev_top (i_op (n_min (by omega))) ?_
      refine ev_reti dX7_inkByTimes_63 rfl rfl ?_
      exact hp
    | succ j ih =>
      intro i acc hi ha
      have hcl := (ltOk_cells ho (show i < t.1 by omega)).1
      refine ev_iload_n (i := 3) dX7_inkByTimes_4 rfl rfl ?_
      refine ev_aload_n (i := 0) dX7_inkByTimes_5 rfl rfl ?_
      refine ev_getfield dX7_inkByTimes_6 fX7_19 (by first | omega | decide) (by first | assumption | (simp (disch := omega) only [mu_s, mu_n]; first | assumption | rfl)) (by rfl) ?_
      refine ev_getfield dX7_inkByTimes_9 fX7_90 (by first | omega | decide) (by first | assumption | (simp (disch := omega) only [mu_s, mu_n]; first | assumption | rfl)) (by rfl) ?_
      refine ev_icmp_geN 57 dX7_inkByTimes_12 (by decide) (by omega) (by omega) (fun b12 => by exfalso; omega) (fun b12 => ?_)
      refine ev_aload_n (i := 0) dX7_inkByTimes_15 rfl rfl ?_
      refine ev_getfield dX7_inkByTimes_16 fX7_19 (by first | omega | decide) (by first | assumption | (simp (disch := omega) only [mu_s, mu_n]; first | assumption | rfl)) (by rfl) ?_
      refine ev_iload_n (i := 3) dX7_inkByTimes_19 rfl rfl ?_
      refine ev_V1 (μ1 := mX1_cellsOf) dX7_inkByTimes_20 sX7_120 okX1_cellsOf (by first | omega | decide) (by first | assumption | (simp (disch := omega) only [mu_s, mu_n]; first | assumption | rfl)) (Nat.le_of_ble_eq_true rfl) (Nat.le_of_ble_eq_true rfl) ?_
      refine c_X1_cellsOf hL ho (by omega) ?_
      refine ev_iload_n (i := 1) dX7_inkByTimes_23 rfl rfl ?_
      refine ev_ishrN dX7_inkByTimes_24 (by omega) (by omega) ?_
      refine ev_iconst (v := nI 1) dX7_inkByTimes_25 rfl ?_
      refine ev_iand1 dX7_inkByTimes_26 ?_
      refine ev_iconst (v := nI 1) dX7_inkByTimes_27 rfl ?_
      refine ev_icmp_neN 51 dX7_inkByTimes_28 (by decide) (by omega) (by omega) (fun b28 => ?_) (fun b28 => ?_)
      · skip
        refine ev_incN dX7_inkByTimes_51 (by rfl) (by decide) rfl ?_
        refine ev_goto 4 dX7_inkByTimes_54 (by decide) ?_
        first
        | (have q : t.2.2.2.2 i / 2 ^ c % 2 ≠ 1 := b28
           exact ih _ _ (by omega) (ha.trans (sN_z (if_neg (fun z => q ((tb_d _ _).mpr z))))))
        | exact ih _ _ (by omega) (by rw [ha]; exact sN_s (if_pos ((tb_d _ _).mp b28)))
      · skip
        refine ev_iload_n (i := 2) dX7_inkByTimes_31 rfl rfl ?_
        refine ev_aload_n (i := 0) dX7_inkByTimes_32 rfl rfl ?_
        refine ev_getfield dX7_inkByTimes_33 fX7_57 (by first | omega | decide) (by first | assumption | (simp (disch := omega) only [mu_s, mu_n]; first | assumption | rfl)) (by rfl) ?_
        refine ev_iload_n (i := 3) dX7_inkByTimes_36 rfl rfl ?_
        refine ev_V1 (μ1 := mX6_howOften) dX7_inkByTimes_37 sX7_256 okX6_howOften (by first | omega | decide) (by first | assumption | (simp (disch := omega) only [mu_s, mu_n]; first | assumption | rfl)) (Nat.le_of_ble_eq_true rfl) (Nat.le_of_ble_eq_true rfl) ?_
        refine q_howOften hT (by omega) ?_
        refine ev_aload_n (i := 0) dX7_inkByTimes_40 rfl rfl ?_
        refine ev_getfield dX7_inkByTimes_41 fX7_19 (by first | omega | decide) (by first | assumption | (simp (disch := omega) only [mu_s, mu_n]; first | assumption | rfl)) (by rfl) ?_
        refine ev_iload_n (i := 3) dX7_inkByTimes_44 rfl rfl ?_
        refine ev_V1 (μ1 := mX1_forceOf) dX7_inkByTimes_45 sX7_117 okX1_forceOf (by first | omega | decide) (by first | assumption | (simp (disch := omega) only [mu_s, mu_n]; first | assumption | rfl)) (Nat.le_of_ble_eq_true rfl) (Nat.le_of_ble_eq_true rfl) ?_
        refine c_X1_forceOf hL ho (by omega) ?_
        refine ev_imulN dX7_inkByTimes_48 ?_
        refine ev_iaddN dX7_inkByTimes_49 ?_
        refine ev_istore_n (i := 2) dX7_inkByTimes_50 rfl (by decide) rfl ?_
        refine ev_incN dX7_inkByTimes_51 (by rfl) (by decide) rfl ?_
        refine ev_goto 4 dX7_inkByTimes_54 (by decide) ?_
        first
        | (have q : t.2.2.2.2 i / 2 ^ c % 2 ≠ 1 := b28
           exact ih _ _ (by omega) (ha.trans (sN_z (if_neg (fun z => q ((tb_d _ _).mpr z))))))
        | exact ih _ _ (by omega) (by rw [ha]; exact sN_s (if_pos ((tb_d _ _).mp b28)))
  refine ev_iconst (v := nI 0) dX7_inkByTimes_0 rfl ?_
  refine ev_istore_n (i := 2) dX7_inkByTimes_1 rfl (by decide) rfl ?_
  refine ev_iconst (v := nI 0) dX7_inkByTimes_2 rfl ?_
  refine ev_istore_n (i := 3) dX7_inkByTimes_3 rfl (by decide) rfl ?_
  exact lp t.1 0 0 (by omega) rfl
theorem c_timesGiveTheInk {o : Nat → Nat} {p : pg} (hR : kRt M sd) (hL : kLt M t) (ho : ltOk t) (hT : kTm M o) (h2 : ∀ l, l < 6 → o l ≤ 2) (hP : kP M 8 p) (hpo : pgOk p) (hp : P (some (.int (bI (tgB t p o)))) M) : Ev 88 (d + 3) mX7_timesGiveTheInk none 0 [.ref 0, .null] [] M P := by
  have hR0 := hR
  unfold kRt at hR0
  obtain ⟨f, g, hs, hf, hg⟩ := hP
  have h8 := hs.1
  have lp : ∀ (j i : Nat), i + j = 12 → (∀ c, c < i → p.1 c = itN t o c) → Ev 88 (d + 3) mX7_timesGiveTheInk none 2 [.ref 0, .int (nI i)] [] M P := by
    intro j
    induction j with
    | zero =>
      intro i hi ha
      obtain rfl : i = 12 := by omega
      refine ev_iload_n (i := 1) dX7_timesGiveTheInk_2 rfl rfl ?_
      refine ev_bipush (v := nI 12) dX7_timesGiveTheInk_3 rfl ?_
      refine ev_icmp_geN 32 dX7_timesGiveTheInk_5 (by decide) (by omega) (by omega) (fun b5 => ?_) (fun b5 => by exfalso; omega)
      refine ev_iconst (v := nI 1) dX7_timesGiveTheInk_32 rfl ?_
      refine ev_reti dX7_timesGiveTheInk_33 rfl rfl ?_
      exact e_retT (allB_t (fun c hc => decide_eq_true (ha c hc))) hp
    | succ j ih =>
      intro i hi ha
      have e1 : inR (nI i) 12 = true := e_has (by omega) (by decide)
      have e2 := (hpo i (by omega)).1
      have e3 : itN t o i ≤ 9 := Nat.min_le_left _ _
      refine ev_iload_n (i := 1) dX7_timesGiveTheInk_2 rfl rfl ?_
      refine ev_bipush (v := nI 12) dX7_timesGiveTheInk_3 rfl ?_
      refine ev_icmp_geN 32 dX7_timesGiveTheInk_5 (by decide) (by omega) (by omega) (fun b5 => by exfalso; omega) (fun b5 => ?_)
      refine ev_aload_n (i := 0) dX7_timesGiveTheInk_8 rfl rfl ?_
      refine ev_getfield dX7_timesGiveTheInk_9 fX7_26 (by first | omega | decide) (by first | assumption | (simp (disch := omega) only [mu_s, mu_n]; first | assumption | rfl)) (by rfl) ?_
      refine ev_iload_n (i := 1) dX7_timesGiveTheInk_12 rfl rfl ?_
      refine ev_V1 (μ1 := mX3_inkAt) dX7_timesGiveTheInk_13 sX7_130 okX3_inkAt (by first | omega | decide) (by first | assumption | (simp (disch := omega) only [mu_s, mu_n]; first | assumption | rfl)) (Nat.le_of_ble_eq_true rfl) (Nat.le_of_ble_eq_true rfl) ?_
      refine c_X3_inkAt (by omega) hs ?_
      rw [if_pos e1, n_cl (by omega), hf i (by omega)]
      refine ev_aload_n (i := 0) dX7_timesGiveTheInk_16 rfl rfl ?_
      refine ev_iload_n (i := 1) dX7_timesGiveTheInk_17 rfl rfl ?_
      refine ev_V1 (μ1 := mX7_inkByTimes) dX7_timesGiveTheInk_18 sX7_253 okX7_inkByTimes (by first | omega | decide) (by first | assumption | (simp (disch := omega) only [mu_s, mu_n]; first | assumption | rfl)) (Nat.le_of_ble_eq_true rfl) (Nat.le_of_ble_eq_true rfl) ?_
      refine c_inkByTimes hR hL ho hT h2 (by omega) ?_
      refine ev_icmp_eqN 26 dX7_timesGiveTheInk_21 (by decide) (by omega) (by omega) (fun b21 => ?_) (fun b21 => ?_)
      · skip
        refine ev_incN dX7_timesGiveTheInk_26 (by rfl) (by decide) rfl ?_
        refine ev_goto 2 dX7_timesGiveTheInk_29 (by decide) ?_
        refine ih _ (by omega) (fun c hc => ?_)
        by_cases e : c = i
        · rw [e]; exact b21
        · exact ha c (by omega)
      · skip
        refine ev_iconst (v := nI 0) dX7_timesGiveTheInk_24 rfl ?_
        refine ev_reti dX7_timesGiveTheInk_25 rfl rfl ?_
        exact e_retF (allB_f (show i < 12 by omega) (decide_eq_false b21)) hp
  refine ev_iconst (v := nI 0) dX7_timesGiveTheInk_0 rfl ?_
  refine ev_istore_n (i := 1) dX7_timesGiveTheInk_1 rfl (by decide) rfl ?_
  exact lp 12 0 rfl (fun c hc => absurd hc (by omega))
theorem c_leastThird {i j : Nat} (hR : kRt M sd) (hL : kLt M t) (ho : ltOk t) (hi : i < t.1) (hj : j < t.1) (hp : P (some (.int (oI (thN t i j)))) M) : Ev 88 (d + 3) mX7_leastThird none 0 [.ref 0, .int (nI i), .int (nI j), .null, .null] [] M P := by
  have h3 := hL.1
  have h6 := ho.1
  unfold kRt at hR
  have hor : 2 ^ i ||| 2 ^ j < 2 ^ 31 := Nat.or_lt_two_pow (Nat.pow_lt_pow_right (by decide) (by omega)) (Nat.pow_lt_pow_right (by decide) (by omega))
  have lp : ∀ (n k : Nat), k + n = t.1 → thN t i j = lf (fun k => decide (k ≠ i) && decide (k ≠ j) && rdN t (shBy t (2 ^ i ||| 2 ^ j)) k) n k → Ev 88 (d + 3) mX7_leastThird none 18 [.ref 0, .int (nI i), .int (nI j), .int (nI (shBy t (2 ^ i ||| 2 ^ j))), .int (nI k)] [] M P := by
    intro n
    induction n with
    | zero =>
      intro k hk e
      obtain rfl : k = t.1 := by omega
      rw [e] at hp
      refine ev_iload (i := 4) dX7_leastThird_18 rfl ?_
      refine ev_aload_n (i := 0) dX7_leastThird_20 rfl rfl ?_
      refine ev_getfield dX7_leastThird_21 fX7_19 (by first | omega | decide) (by first | assumption | (simp (disch := omega) only [mu_s, mu_n]; first | assumption | rfl)) (by rfl) ?_
      refine ev_getfield dX7_leastThird_24 fX7_90 (by first | omega | decide) (by first | assumption | (simp (disch := omega) only [mu_s, mu_n]; first | assumption | rfl)) (by rfl) ?_
      refine ev_icmp_geN 64 dX7_leastThird_27 (by decide) (by omega) (by omega) (fun b27 => ?_) (fun b27 => by exfalso; omega)
      refine ev_bipush (v := (-9)) dX7_leastThird_64 rfl ?_
      refine ev_reti dX7_leastThird_66 rfl rfl ?_
      exact hp
    | succ n ih =>
      intro k hk e
      refine ev_iload (i := 4) dX7_leastThird_18 rfl ?_
      refine ev_aload_n (i := 0) dX7_leastThird_20 rfl rfl ?_
      refine ev_getfield dX7_leastThird_21 fX7_19 (by first | omega | decide) (by first | assumption | (simp (disch := omega) only [mu_s, mu_n]; first | assumption | rfl)) (by rfl) ?_
      refine ev_getfield dX7_leastThird_24 fX7_90 (by first | omega | decide) (by first | assumption | (simp (disch := omega) only [mu_s, mu_n]; first | assumption | rfl)) (by rfl) ?_
      refine ev_icmp_geN 64 dX7_leastThird_27 (by decide) (by omega) (by omega) (fun b27 => by exfalso; omega) (fun b27 => ?_)
      refine ev_iload (i := 4) dX7_leastThird_30 rfl ?_
      refine ev_iload_n (i := 1) dX7_leastThird_32 rfl rfl ?_
      refine ev_icmp_eqN 58 dX7_leastThird_33 (by decide) (by omega) (by omega) (fun b33 => ?_) (fun b33 => ?_)
      · skip
        refine ev_incN dX7_leastThird_58 (by rfl) (by decide) rfl ?_
        refine ev_goto 18 dX7_leastThird_61 (by decide) ?_
        first
        | (have q : k = i := b33
           exact ih _ (by omega) (e.trans (lf_f (by simp [q]))))
        | (have q : k = j := b39
           exact ih _ (by omega) (e.trans (lf_f (by simp [q]))))
        | exact ih _ (by omega) (e.trans (lf_f (by simp [b52])))
      · skip
        refine ev_iload (i := 4) dX7_leastThird_36 rfl ?_
        refine ev_iload_n (i := 2) dX7_leastThird_38 rfl rfl ?_
        refine ev_icmp_eqN 58 dX7_leastThird_39 (by decide) (by omega) (by omega) (fun b39 => ?_) (fun b39 => ?_)
        · skip
          refine ev_incN dX7_leastThird_58 (by rfl) (by decide) rfl ?_
          refine ev_goto 18 dX7_leastThird_61 (by decide) ?_
          first
          | (have q : k = i := b33
             exact ih _ (by omega) (e.trans (lf_f (by simp [q]))))
          | (have q : k = j := b39
             exact ih _ (by omega) (e.trans (lf_f (by simp [q]))))
          | exact ih _ (by omega) (e.trans (lf_f (by simp [b52])))
        · skip
          refine ev_aload_n (i := 0) dX7_leastThird_42 rfl rfl ?_
          refine ev_getfield dX7_leastThird_43 fX7_19 (by first | omega | decide) (by first | assumption | (simp (disch := omega) only [mu_s, mu_n]; first | assumption | rfl)) (by rfl) ?_
          refine ev_iload (i := 4) dX7_leastThird_46 rfl ?_
          refine ev_iload_n (i := 3) dX7_leastThird_48 rfl rfl ?_
          refine ev_V2 (μ1 := mX1_canBeRead) dX7_leastThird_49 sX7_123 okX1_canBeRead (by first | omega | decide) (by first | assumption | (simp (disch := omega) only [mu_s, mu_n]; first | assumption | rfl)) (Nat.le_of_ble_eq_true rfl) (Nat.le_of_ble_eq_true rfl) ?_
          refine c_X1_canBeRead hL ho (by omega) ?_
          refine ev_if_eqB 58 dX7_leastThird_52 (by decide) (fun b52 => ?_) (fun b52 => ?_)
          · skip
            refine ev_incN dX7_leastThird_58 (by rfl) (by decide) rfl ?_
            refine ev_goto 18 dX7_leastThird_61 (by decide) ?_
            first
            | (have q : k = i := b33
               exact ih _ (by omega) (e.trans (lf_f (by simp [q]))))
            | (have q : k = j := b39
               exact ih _ (by omega) (e.trans (lf_f (by simp [q]))))
            | exact ih _ (by omega) (e.trans (lf_f (by simp [b52])))
          · skip
            refine ev_iload (i := 4) dX7_leastThird_55 rfl ?_
            refine ev_reti dX7_leastThird_57 rfl rfl ?_
            rw [e, lf_t (by simp [b33, b39, b52])] at hp
            exact hp
  refine ev_aload_n (i := 0) dX7_leastThird_0 rfl rfl ?_
  refine ev_getfield dX7_leastThird_1 fX7_19 (by first | omega | decide) (by first | assumption | (simp (disch := omega) only [mu_s, mu_n]; first | assumption | rfl)) (by rfl) ?_
  refine ev_iconst (v := nI 1) dX7_leastThird_4 rfl ?_
  refine ev_iload_n (i := 1) dX7_leastThird_5 rfl rfl ?_
  refine ev_ishl1 dX7_leastThird_6 (by omega) ?_
  refine ev_iconst (v := nI 1) dX7_leastThird_7 rfl ?_
  refine ev_iload_n (i := 2) dX7_leastThird_8 rfl rfl ?_
  refine ev_ishl1 dX7_leastThird_9 (by omega) ?_
  refine ev_iorN dX7_leastThird_10 ?_
  refine ev_V1 (μ1 := mX1_shownBy) dX7_leastThird_11 sX7_163 okX1_shownBy (by first | omega | decide) (by first | assumption | (simp (disch := omega) only [mu_s, mu_n]; first | assumption | rfl)) (Nat.le_of_ble_eq_true rfl) (Nat.le_of_ble_eq_true rfl) ?_
  refine c_X1_shownBy hL ho hor ?_
  refine ev_istore_n (i := 3) dX7_leastThird_14 rfl (by decide) rfl ?_
  refine ev_iconst (v := nI 0) dX7_leastThird_15 rfl ?_
  refine ev_istore (i := 4) dX7_leastThird_16 (by decide) rfl ?_
  exact lp t.1 0 (by omega) rfl
end STA
section STB
variable {N d : Nat} {M : mM} {P : Option Value → mM → Prop}
theorem c_isSeen {f x : Nat} (hf : f < 2 ^ 31) (hx : x < 2 ^ 31) (hp : P (some (.int (bI (decide (x < f))))) M) : Ev N d mX7_isSeen none 0 [.int (nI f), .int (nI x)] [] M P := by
  refine ev_iload_n (i := 0) dX7_isSeen_0 rfl rfl ?_
  refine ev_iload_n (i := 1) dX7_isSeen_1 rfl rfl ?_
  refine ev_icmp_leN 9 dX7_isSeen_2 (by decide) (by omega) (by omega) (fun b2 => ?_) (fun b2 => ?_)
  · skip
    refine ev_iconst (v := nI 0) dX7_isSeen_9 rfl ?_
    refine ev_reti dX7_isSeen_10 rfl rfl ?_
    exact e_retF (decide_eq_false (by omega)) hp
  · skip
    refine ev_iconst (v := nI 1) dX7_isSeen_5 rfl ?_
    refine ev_goto 10 dX7_isSeen_6 (by decide) ?_
    refine ev_reti dX7_isSeen_10 rfl rfl ?_
    exact e_retT (decide_eq_true b2) hp
theorem c_clerkHas {f x : Nat} (hf : f < 2 ^ 30) (hx : x < 2 ^ 31) (hp : P (some (.int (clkI f x))) M) : Ev N (d + 1) mX7_clerkHas none 0 [.int (nI f), .int (nI x)] [] M P := by
  refine ev_iload_n (i := 0) dX7_clerkHas_0 rfl rfl ?_
  refine ev_iload_n (i := 1) dX7_clerkHas_1 rfl rfl ?_
  refine ev_S2 (μ1 := mX7_isSeen) dX7_clerkHas_2 sX7_264 okX7_isSeen (Nat.le_of_ble_eq_true rfl) (Nat.le_of_ble_eq_true rfl) ?_
  refine c_isSeen (by omega) hx ?_
  refine ev_if_eqB 16 dX7_clerkHas_5 (by decide) (fun b5 => ?_) (fun b5 => ?_)
  · skip
    refine ev_iconst (v := nI 2) dX7_clerkHas_16 rfl ?_
    refine ev_iload_n (i := 0) dX7_clerkHas_17 rfl rfl ?_
    refine ev_imulN dX7_clerkHas_18 ?_
    refine ev_reti dX7_clerkHas_19 rfl rfl ?_
    first
    | (have q := of_decide_eq_true b5
       unfold clkI at hp; rw [if_pos q] at hp; exact hp)
    | (have q := of_decide_eq_false b5
       unfold clkI at hp; rw [if_neg q] at hp; exact hp)
  · skip
    refine ev_iconst (v := nI 2) dX7_clerkHas_8 rfl ?_
    refine ev_iload_n (i := 0) dX7_clerkHas_9 rfl rfl ?_
    refine ev_imulN dX7_clerkHas_10 ?_
    refine ev_iconst (v := nI 5) dX7_clerkHas_11 rfl ?_
    refine ev_isub dX7_clerkHas_12 ?_
    refine ev_goto 19 dX7_clerkHas_13 (by decide) ?_
    refine ev_reti dX7_clerkHas_19 rfl rfl ?_
    first
    | (have q := of_decide_eq_true b5
       unfold clkI at hp; rw [if_pos q] at hp; exact hp)
    | (have q := of_decide_eq_false b5
       unfold clkI at hp; rw [if_neg q] at hp; exact hp)
theorem c_auditorHas {f x : Nat} (hf : f < 2 ^ 30) (hx : x < 2 ^ 31) (hp : P (some (.int (audI f x))) M) : Ev N (d + 1) mX7_auditorHas none 0 [.int (nI f), .int (nI x)] [] M P := by
  refine ev_iload_n (i := 0) dX7_auditorHas_0 rfl rfl ?_
  refine ev_iload_n (i := 1) dX7_auditorHas_1 rfl rfl ?_
  refine ev_S2 (μ1 := mX7_isSeen) dX7_auditorHas_2 sX7_264 okX7_isSeen (Nat.le_of_ble_eq_true rfl) (Nat.le_of_ble_eq_true rfl) ?_
  refine c_isSeen (by omega) hx ?_
  refine ev_if_eqB 14 dX7_auditorHas_5 (by decide) (fun b5 => ?_) (fun b5 => ?_)
  · skip
    refine ev_iload_n (i := 1) dX7_auditorHas_14 rfl rfl ?_
    refine ev_ineg dX7_auditorHas_15 ?_
    refine ev_reti dX7_auditorHas_16 rfl rfl ?_
    first
    | (have q := of_decide_eq_true b5
       unfold audI at hp; rw [if_pos q] at hp; exact hp)
    | (have q := of_decide_eq_false b5
       unfold audI at hp; rw [if_neg q] at hp; exact hp)
  · skip
    refine ev_iconst (v := nI 4) dX7_auditorHas_8 rfl ?_
    refine ev_iload_n (i := 1) dX7_auditorHas_9 rfl rfl ?_
    refine ev_isub dX7_auditorHas_10 ?_
    refine ev_goto 16 dX7_auditorHas_11 (by decide) ?_
    refine ev_reti dX7_auditorHas_16 rfl rfl ?_
    first
    | (have q := of_decide_eq_true b5
       unfold audI at hp; rw [if_pos q] at hp; exact hp)
    | (have q := of_decide_eq_false b5
       unfold audI at hp; rw [if_neg q] at hp; exact hp)
theorem c_canPressBy {h f : Nat} (hh : h < 2 ^ 31) (hf : f < 2 ^ 31) (hp : P (some (.int (bI (cpB h f)))) M) : Ev N d mX7_canPressBy none 0 [.int (nI h), .int (nI f)] [] M P := by
  have eT : (h = 2 → 1 ≤ f) → (h = 1 → f ≤ 2) → cpB h f = true := fun x y => by
    have e1 : (decide (h = 2) && decide (f < 1)) = false := by simp; intro z; have := x z; omega
    have e2 : (decide (h = 1) && decide (2 < f)) = false := by simp; intro z; have := y z; omega
    unfold cpB
    rw [e1, e2]; rfl
  have eF1 : h = 2 → f < 1 → cpB h f = false := fun x y => by simp [cpB, x, y]
  have eF2 : h = 1 → 2 < f → cpB h f = false := fun x y => by simp [cpB, x, y]
  refine ev_iload_n (i := 0) dX7_canPressBy_0 rfl rfl ?_
  refine ev_iconst (v := nI 2) dX7_canPressBy_1 rfl ?_
  refine ev_icmp_neN 10 dX7_canPressBy_2 (by decide) (by omega) (by omega) (fun b2 => ?_) (fun b2 => ?_)
  · skip
    refine ev_iload_n (i := 0) dX7_canPressBy_10 rfl rfl ?_
    refine ev_iconst (v := nI 1) dX7_canPressBy_11 rfl ?_
    refine ev_icmp_neN 20 dX7_canPressBy_12 (by decide) (by omega) (by omega) (fun b12 => ?_) (fun b12 => ?_)
    · skip
      refine ev_iconst (v := nI 1) dX7_canPressBy_20 rfl ?_
      refine ev_goto 25 dX7_canPressBy_21 (by decide) ?_
      refine ev_reti dX7_canPressBy_25 rfl rfl ?_
      exact e_retT (eT (by omega) (by omega)) hp
    · skip
      refine ev_iload_n (i := 1) dX7_canPressBy_15 rfl rfl ?_
      refine ev_iconst (v := nI 2) dX7_canPressBy_16 rfl ?_
      refine ev_icmp_gtN 24 dX7_canPressBy_17 (by decide) (by omega) (by omega) (fun b17 => ?_) (fun b17 => ?_)
      · skip
        refine ev_iconst (v := nI 0) dX7_canPressBy_24 rfl ?_
        refine ev_reti dX7_canPressBy_25 rfl rfl ?_
        exact e_retF (by first | exact eF2 (by omega) b17 | exact eF1 (by omega) b7) hp
      · skip
        refine ev_iconst (v := nI 1) dX7_canPressBy_20 rfl ?_
        refine ev_goto 25 dX7_canPressBy_21 (by decide) ?_
        refine ev_reti dX7_canPressBy_25 rfl rfl ?_
        exact e_retT (eT (by omega) (by omega)) hp
  · skip
    refine ev_iload_n (i := 1) dX7_canPressBy_5 rfl rfl ?_
    refine ev_iconst (v := nI 1) dX7_canPressBy_6 rfl ?_
    refine ev_icmp_ltN 24 dX7_canPressBy_7 (by decide) (by omega) (by omega) (fun b7 => ?_) (fun b7 => ?_)
    · skip
      refine ev_iconst (v := nI 0) dX7_canPressBy_24 rfl ?_
      refine ev_reti dX7_canPressBy_25 rfl rfl ?_
      exact e_retF (by first | exact eF2 (by omega) b17 | exact eF1 (by omega) b7) hp
    · skip
      refine ev_iload_n (i := 0) dX7_canPressBy_10 rfl rfl ?_
      refine ev_iconst (v := nI 1) dX7_canPressBy_11 rfl ?_
      refine ev_icmp_neN 20 dX7_canPressBy_12 (by decide) (by omega) (by omega) (fun b12 => ?_) (fun b12 => ?_)
      · skip
        refine ev_iconst (v := nI 1) dX7_canPressBy_20 rfl ?_
        refine ev_goto 25 dX7_canPressBy_21 (by decide) ?_
        refine ev_reti dX7_canPressBy_25 rfl rfl ?_
        exact e_retT (eT (by omega) (by omega)) hp
      · skip
        refine ev_iload_n (i := 1) dX7_canPressBy_15 rfl rfl ?_
        refine ev_iconst (v := nI 2) dX7_canPressBy_16 rfl ?_
        refine ev_icmp_gtN 24 dX7_canPressBy_17 (by decide) (by omega) (by omega) (fun b17 => ?_) (fun b17 => ?_)
        · skip
          refine ev_iconst (v := nI 0) dX7_canPressBy_24 rfl ?_
          refine ev_reti dX7_canPressBy_25 rfl rfl ?_
          exact e_retF (by first | exact eF2 (by omega) b17 | exact eF1 (by omega) b7) hp
        · skip
          refine ev_iconst (v := nI 1) dX7_canPressBy_20 rfl ?_
          refine ev_goto 25 dX7_canPressBy_21 (by decide) ?_
          refine ev_reti dX7_canPressBy_25 rfl rfl ?_
          exact e_retT (eT (by omega) (by omega)) hp
theorem c_isAtRest {h f x : Nat} (hh : h < 2 ^ 31) (hf : f ≤ 3) (hx : x ≤ 3) (hp : P (some (.int (bI (arB h f x)))) M) : Ev N (d + 2) mX7_isAtRest none 0 [.int (nI h), .int (nI f), .int (nI x), .null] [] M P := by
  have lp : ∀ (j o : Nat), o + j = 4 → cpB h f = true → (∀ i, i < o → (!(cpB h i && decide (clkI f x < clkI i x)) && !decide (audI f x < audI f i)) = true) → Ev N (d + 2) mX7_isAtRest none 12 [.int (nI h), .int (nI f), .int (nI x), .int (nI o)] [] M P := by
    intro j
    induction j with
    | zero =>
      intro o ho hc ha
      obtain rfl : o = 4 := by omega
      refine ev_iload_n (i := 3) dX7_isAtRest_12 rfl rfl ?_
      refine ev_iconst (v := nI 3) dX7_isAtRest_13 rfl ?_
      refine ev_icmp_gtN 61 dX7_isAtRest_14 (by decide) (by omega) (by omega) (fun b14 => ?_) (fun b14 => by exfalso; omega)
      refine ev_iconst (v := nI 1) dX7_isAtRest_61 rfl ?_
      refine ev_reti dX7_isAtRest_62 rfl rfl ?_
      exact e_retT (by unfold arB; rw [hc, allB_t ha]; rfl) hp
    | succ j ih =>
      intro o ho hc ha
      have hF : (!(cpB h o && decide (clkI f x < clkI o x)) && !decide (audI f x < audI f o)) = false → arB h f x = false := fun z => by
        unfold arB
        rw [allB_f (show o < 4 by omega) z, Bool.and_false]
      have hS : (!(cpB h o && decide (clkI f x < clkI o x)) && !decide (audI f x < audI f o)) = true → ∀ i, i < o + 1 → (!(cpB h i && decide (clkI f x < clkI i x)) && !decide (audI f x < audI f i)) = true := fun z i hi => by
        by_cases e : i = o
        · rw [e]; exact z
        · exact ha i (by omega)
      refine ev_iload_n (i := 3) dX7_isAtRest_12 rfl rfl ?_
      refine ev_iconst (v := nI 3) dX7_isAtRest_13 rfl ?_
      refine ev_icmp_gtN 61 dX7_isAtRest_14 (by decide) (by omega) (by omega) (fun b14 => by exfalso; omega) (fun b14 => ?_)
      refine ev_iload_n (i := 0) dX7_isAtRest_17 rfl rfl ?_
      refine ev_iload_n (i := 3) dX7_isAtRest_18 rfl rfl ?_
      refine ev_S2 (μ1 := mX7_canPressBy) dX7_isAtRest_19 sX7_267 okX7_canPressBy (Nat.le_of_ble_eq_true rfl) (Nat.le_of_ble_eq_true rfl) ?_
      refine c_canPressBy hh (by omega) ?_
      refine ev_if_eqB 40 dX7_isAtRest_22 (by decide) (fun b22 => ?_) (fun b22 => ?_)
      · skip
        refine ev_iload_n (i := 1) dX7_isAtRest_40 rfl rfl ?_
        refine ev_iload_n (i := 3) dX7_isAtRest_41 rfl rfl ?_
        refine ev_S2 (μ1 := mX7_auditorHas) dX7_isAtRest_42 sX7_273 okX7_auditorHas (Nat.le_of_ble_eq_true rfl) (Nat.le_of_ble_eq_true rfl) ?_
        refine c_auditorHas (by omega) (by omega) ?_
        refine ev_iload_n (i := 1) dX7_isAtRest_45 rfl rfl ?_
        refine ev_iload_n (i := 2) dX7_isAtRest_46 rfl rfl ?_
        refine ev_S2 (μ1 := mX7_auditorHas) dX7_isAtRest_47 sX7_273 okX7_auditorHas (Nat.le_of_ble_eq_true rfl) (Nat.le_of_ble_eq_true rfl) ?_
        refine c_auditorHas (by omega) (by omega) ?_
        refine ev_icmp_le 55 dX7_isAtRest_50 (by decide) (fun b50 => ?_) (fun b50 => ?_)
        · skip
          refine ev_incN dX7_isAtRest_55 (by rfl) (by decide) rfl ?_
          refine ev_goto 12 dX7_isAtRest_58 (by decide) ?_
          first
          | (have q : cpB h o = false := b22
             exact ih _ (by omega) hc (hS (by rw [q, decide_eq_false (Int32.not_lt.mpr b50)]; rfl)))
          | exact ih _ (by omega) hc (hS (by rw [b22, decide_eq_false (Int32.not_lt.mpr b50), decide_eq_false (Int32.not_lt.mpr b35)]; rfl))
        · skip
          refine ev_iconst (v := nI 0) dX7_isAtRest_53 rfl ?_
          refine ev_reti dX7_isAtRest_54 rfl rfl ?_
          exact e_retF (by first | (have q : ¬ audI f x ≥ audI f o := b50; exact hF (by rw [decide_eq_true (Int32.not_le.mp q), Bool.not_true, Bool.and_false])) | (have q : ¬ clkI o x ≤ clkI f x := b35; exact hF (by rw [b22, decide_eq_true (Int32.not_le.mp q)]; rfl))) hp
      · skip
        refine ev_iload_n (i := 3) dX7_isAtRest_25 rfl rfl ?_
        refine ev_iload_n (i := 2) dX7_isAtRest_26 rfl rfl ?_
        refine ev_S2 (μ1 := mX7_clerkHas) dX7_isAtRest_27 sX7_270 okX7_clerkHas (Nat.le_of_ble_eq_true rfl) (Nat.le_of_ble_eq_true rfl) ?_
        refine c_clerkHas (by omega) (by omega) ?_
        refine ev_iload_n (i := 1) dX7_isAtRest_30 rfl rfl ?_
        refine ev_iload_n (i := 2) dX7_isAtRest_31 rfl rfl ?_
        refine ev_S2 (μ1 := mX7_clerkHas) dX7_isAtRest_32 sX7_270 okX7_clerkHas (Nat.le_of_ble_eq_true rfl) (Nat.le_of_ble_eq_true rfl) ?_
        refine c_clerkHas (by omega) (by omega) ?_
        refine ev_icmp_le 40 dX7_isAtRest_35 (by decide) (fun b35 => ?_) (fun b35 => ?_)
        · skip
          refine ev_iload_n (i := 1) dX7_isAtRest_40 rfl rfl ?_
          refine ev_iload_n (i := 3) dX7_isAtRest_41 rfl rfl ?_
          refine ev_S2 (μ1 := mX7_auditorHas) dX7_isAtRest_42 sX7_273 okX7_auditorHas (Nat.le_of_ble_eq_true rfl) (Nat.le_of_ble_eq_true rfl) ?_
          refine c_auditorHas (by omega) (by omega) ?_
          refine ev_iload_n (i := 1) dX7_isAtRest_45 rfl rfl ?_
          refine ev_iload_n (i := 2) dX7_isAtRest_46 rfl rfl ?_
          refine ev_S2 (μ1 := mX7_auditorHas) dX7_isAtRest_47 sX7_273 okX7_auditorHas (Nat.le_of_ble_eq_true rfl) (Nat.le_of_ble_eq_true rfl) ?_
          refine c_auditorHas (by omega) (by omega) ?_
          refine ev_icmp_le 55 dX7_isAtRest_50 (by decide) (fun b50 => ?_) (fun b50 => ?_)
          · skip
            refine ev_incN dX7_isAtRest_55 (by rfl) (by decide) rfl ?_
            refine ev_goto 12 dX7_isAtRest_58 (by decide) ?_
            first
            | (have q : cpB h o = false := b22
               exact ih _ (by omega) hc (hS (by rw [q, decide_eq_false (Int32.not_lt.mpr b50)]; rfl)))
            | exact ih _ (by omega) hc (hS (by rw [b22, decide_eq_false (Int32.not_lt.mpr b50), decide_eq_false (Int32.not_lt.mpr b35)]; rfl))
          · skip
            refine ev_iconst (v := nI 0) dX7_isAtRest_53 rfl ?_
            refine ev_reti dX7_isAtRest_54 rfl rfl ?_
            exact e_retF (by first | (have q : ¬ audI f x ≥ audI f o := b50; exact hF (by rw [decide_eq_true (Int32.not_le.mp q), Bool.not_true, Bool.and_false])) | (have q : ¬ clkI o x ≤ clkI f x := b35; exact hF (by rw [b22, decide_eq_true (Int32.not_le.mp q)]; rfl))) hp
        · skip
          refine ev_iconst (v := nI 0) dX7_isAtRest_38 rfl ?_
          refine ev_reti dX7_isAtRest_39 rfl rfl ?_
          exact e_retF (by first | (have q : ¬ audI f x ≥ audI f o := b50; exact hF (by rw [decide_eq_true (Int32.not_le.mp q), Bool.not_true, Bool.and_false])) | (have q : ¬ clkI o x ≤ clkI f x := b35; exact hF (by rw [b22, decide_eq_true (Int32.not_le.mp q)]; rfl))) hp
  refine ev_iload_n (i := 0) dX7_isAtRest_0 rfl rfl ?_
  refine ev_iload_n (i := 1) dX7_isAtRest_1 rfl rfl ?_
  refine ev_S2 (μ1 := mX7_canPressBy) dX7_isAtRest_2 sX7_267 okX7_canPressBy (Nat.le_of_ble_eq_true rfl) (Nat.le_of_ble_eq_true rfl) ?_
  refine c_canPressBy hh (by omega) ?_
  refine ev_if_neB 10 dX7_isAtRest_5 (by decide) (fun b5 => ?_) (fun b5 => ?_)
  · skip
    refine ev_iconst (v := nI 0) dX7_isAtRest_10 rfl ?_
    refine ev_istore_n (i := 3) dX7_isAtRest_11 rfl (by decide) rfl ?_
    exact lp 4 0 rfl b5 (fun i hi => absurd hi (by omega))
  · skip
    refine ev_iconst (v := nI 0) dX7_isAtRest_8 rfl ?_
    refine ev_reti dX7_isAtRest_9 rfl rfl ?_
    exact e_retF (by unfold arB; rw [b5]; rfl) hp
theorem c_power {b n : Nat} (hn : n < 2 ^ 31) (hp : P (some (.int (nI (b ^ n)))) M) : Ev N d mX7_power none 0 [.int (nI b), .int (nI n), .null, .null] [] M P := by
  have lp : ∀ (j c : Nat), c + j = n → Ev N d mX7_power none 4 [.int (nI b), .int (nI n), .int (nI (b ^ c)), .int (nI c)] [] M P := by
    intro j
    induction j with
    | zero =>
      intro c hc
      obtain rfl : c = n := by omega
      refine ev_iload_n (i := 3) dX7_power_4 rfl rfl ?_
      refine ev_iload_n (i := 1) dX7_power_5 rfl rfl ?_
      refine ev_icmp_geN 19 dX7_power_6 (by decide) (by omega) (by omega) (fun b6 => ?_) (fun b6 => by exfalso; omega)
      refine ev_iload_n (i := 2) dX7_power_19 rfl rfl ?_
      refine ev_reti dX7_power_20 rfl rfl ?_
      exact hp
    | succ j ih =>
      intro c hc
      refine ev_iload_n (i := 3) dX7_power_4 rfl rfl ?_
      refine ev_iload_n (i := 1) dX7_power_5 rfl rfl ?_
      refine ev_icmp_geN 19 dX7_power_6 (by decide) (by omega) (by omega) (fun b6 => by exfalso; omega) (fun b6 => ?_)
      refine ev_iload_n (i := 2) dX7_power_9 rfl rfl ?_
      refine ev_iload_n (i := 0) dX7_power_10 rfl rfl ?_
      refine ev_imulN dX7_power_11 ?_
      refine ev_istore_n (i := 2) dX7_power_12 rfl (by decide) rfl ?_
      refine ev_incN dX7_power_13 (by rfl) (by decide) rfl ?_
      refine ev_goto 4 dX7_power_16 (by decide) ?_
      exact ih (c + 1) (by omega)
  refine ev_iconst (v := nI 1) dX7_power_0 rfl ?_
  refine ev_istore_n (i := 2) dX7_power_1 rfl (by decide) rfl ?_
  refine ev_iconst (v := nI 0) dX7_power_2 rfl ?_
  refine ev_istore_n (i := 3) dX7_power_3 rfl (by decide) rfl ?_
  exact lp n 0 (by omega)
theorem c_commonDivisor {a b : Nat} (ha : a < 2 ^ 31) (hb : b < 2 ^ 31) (hp : P (some (.int (nI (Nat.gcd a b)))) M) : Ev N d mX7_commonDivisor none 0 [.int (nI a), .int (nI b), .null, .null, .null, .null] [] M P := by
  have two : ∀ (x y st : Nat) (lx : Value), y = 0 → st ≤ 64 → x = Nat.gcd a b → Ev N d mX7_commonDivisor none 7 [.int (nI a), .int (nI b), .int (nI x), .int (nI y), .int (nI st), lx] [] M P := by
    intro x y st lx hy hs e
    subst hy
    rw [← e] at hp
    by_cases h64 : st = 64
    · skip
      refine ev_iload (i := 4) dX7_commonDivisor_7 rfl ?_
      refine ev_bipush (v := nI 64) dX7_commonDivisor_9 rfl ?_
      refine ev_icmp_geN 34 dX7_commonDivisor_11 (by decide) (by omega) (by omega) (fun b11 => ?_) (fun b11 => by exfalso; omega)
      refine ev_iload_n (i := 2) dX7_commonDivisor_34 rfl rfl ?_
      refine ev_reti dX7_commonDivisor_35 rfl rfl ?_
      exact hp
    · skip
      refine ev_iload (i := 4) dX7_commonDivisor_7 rfl ?_
      refine ev_bipush (v := nI 64) dX7_commonDivisor_9 rfl ?_
      refine ev_icmp_geN 34 dX7_commonDivisor_11 (by decide) (by omega) (by omega) (fun b11 => by exfalso; omega) (fun b11 => ?_)
      refine ev_iload_n (i := 3) dX7_commonDivisor_14 rfl rfl ?_
      refine ev_if_eqN 34 dX7_commonDivisor_15 (by decide) (by omega) (fun b15 => ?_) (fun b15 => by exfalso; omega)
      refine ev_iload_n (i := 2) dX7_commonDivisor_34 rfl rfl ?_
      refine ev_reti dX7_commonDivisor_35 rfl rfl ?_
      exact hp
  have one : ∀ (x y st : Nat) (lx : Value), x < 2 ^ 31 → y < 2 ^ 31 → y ≠ 0 → st < 64 → (∀ (st1 : Nat) (lx : Value), st1 = st + 1 → Ev N d mX7_commonDivisor none 7 [.int (nI a), .int (nI b), .int (nI y), .int (nI (x % y)), .int (nI st1), lx] [] M P) → Ev N d mX7_commonDivisor none 7 [.int (nI a), .int (nI b), .int (nI x), .int (nI y), .int (nI st), lx] [] M P := by
    intro x y st lx hx hy hy0 hs kk
    refine ev_iload (i := 4) dX7_commonDivisor_7 rfl ?_
    refine ev_bipush (v := nI 64) dX7_commonDivisor_9 rfl ?_
    refine ev_icmp_geN 34 dX7_commonDivisor_11 (by decide) (by omega) (by omega) (fun b11 => by exfalso; omega) (fun b11 => ?_)
    refine ev_iload_n (i := 3) dX7_commonDivisor_14 rfl rfl ?_
    refine ev_if_eqN 34 dX7_commonDivisor_15 (by decide) (by omega) (fun b15 => by exfalso; omega) (fun b15 => ?_)
    refine ev_iload_n (i := 2) dX7_commonDivisor_18 rfl rfl ?_
    refine ev_iload_n (i := 3) dX7_commonDivisor_19 rfl rfl ?_
    refine ev_iremN dX7_commonDivisor_20 (by omega) (by omega) (by omega) ?_
    refine ev_istore (i := 5) dX7_commonDivisor_21 (by decide) rfl ?_
    refine ev_iload_n (i := 3) dX7_commonDivisor_23 rfl rfl ?_
    refine ev_istore_n (i := 2) dX7_commonDivisor_24 rfl (by decide) rfl ?_
    refine ev_iload (i := 5) dX7_commonDivisor_25 rfl ?_
    refine ev_istore_n (i := 3) dX7_commonDivisor_27 rfl (by decide) rfl ?_
    refine ev_incN dX7_commonDivisor_28 (by rfl) (by decide) rfl ?_
    refine ev_goto 7 dX7_commonDivisor_31 (by decide) ?_
    exact kk _ _ rfl
  have lp : ∀ (k x y st : Nat) (lx : Value), x < 2 ^ 31 → y < 2 ^ 31 → y < 2 ^ k → st + 2 * k ≤ 64 → Nat.gcd x y = Nat.gcd a b → Ev N d mX7_commonDivisor none 7 [.int (nI a), .int (nI b), .int (nI x), .int (nI y), .int (nI st), lx] [] M P := by
    intro k
    induction k with
    | zero =>
      intro x y st lx hx hy hk hs e
      obtain rfl : y = 0 := by simpa using hk
      rw [Nat.gcd_zero_right] at e
      subst e
      by_cases h64 : st = 64
      · skip
        refine ev_iload (i := 4) dX7_commonDivisor_7 rfl ?_
        refine ev_bipush (v := nI 64) dX7_commonDivisor_9 rfl ?_
        refine ev_icmp_geN 34 dX7_commonDivisor_11 (by decide) (by omega) (by omega) (fun b11 => ?_) (fun b11 => by exfalso; omega)
        refine ev_iload_n (i := 2) dX7_commonDivisor_34 rfl rfl ?_
        refine ev_reti dX7_commonDivisor_35 rfl rfl ?_
        exact hp
      · skip
        refine ev_iload (i := 4) dX7_commonDivisor_7 rfl ?_
        refine ev_bipush (v := nI 64) dX7_commonDivisor_9 rfl ?_
        refine ev_icmp_geN 34 dX7_commonDivisor_11 (by decide) (by omega) (by omega) (fun b11 => by exfalso; omega) (fun b11 => ?_)
        refine ev_iload_n (i := 3) dX7_commonDivisor_14 rfl rfl ?_
        refine ev_if_eqN 34 dX7_commonDivisor_15 (by decide) (by omega) (fun b15 => ?_) (fun b15 => by exfalso; omega)
        refine ev_iload_n (i := 2) dX7_commonDivisor_34 rfl rfl ?_
        refine ev_reti dX7_commonDivisor_35 rfl rfl ?_
        exact hp
    | succ k ih =>
      intro x y st lx hx hy hk hs e
      by_cases hy0 : y = 0
      · subst hy0
        rw [Nat.gcd_zero_right] at e
        subst e
        refine ev_iload (i := 4) dX7_commonDivisor_7 rfl ?_
        refine ev_bipush (v := nI 64) dX7_commonDivisor_9 rfl ?_
        refine ev_icmp_geN 34 dX7_commonDivisor_11 (by decide) (by omega) (by omega) (fun b11 => by exfalso; omega) (fun b11 => ?_)
        refine ev_iload_n (i := 3) dX7_commonDivisor_14 rfl rfl ?_
        refine ev_if_eqN 34 dX7_commonDivisor_15 (by decide) (by omega) (fun b15 => ?_) (fun b15 => by exfalso; omega)
        refine ev_iload_n (i := 2) dX7_commonDivisor_34 rfl rfl ?_
        refine ev_reti dX7_commonDivisor_35 rfl rfl ?_
        exact hp
      · have hlt := Nat.mod_lt x (show 0 < y by omega)
        have eg : Nat.gcd y (x % y) = Nat.gcd a b := by rw [Nat.gcd_comm y, ← Nat.gcd_rec y x, Nat.gcd_comm, e]
        by_cases hr : x % y = 0
        · have ey : y = Nat.gcd a b := by rw [← eg, hr, Nat.gcd_zero_right]
          refine ev_iload (i := 4) dX7_commonDivisor_7 rfl ?_
          refine ev_bipush (v := nI 64) dX7_commonDivisor_9 rfl ?_
          refine ev_icmp_geN 34 dX7_commonDivisor_11 (by decide) (by omega) (by omega) (fun b11 => by exfalso; omega) (fun b11 => ?_)
          refine ev_iload_n (i := 3) dX7_commonDivisor_14 rfl rfl ?_
          refine ev_if_eqN 34 dX7_commonDivisor_15 (by decide) (by omega) (fun b15 => by exfalso; omega) (fun b15 => ?_)
          refine ev_iload_n (i := 2) dX7_commonDivisor_18 rfl rfl ?_
          refine ev_iload_n (i := 3) dX7_commonDivisor_19 rfl rfl ?_
          refine ev_iremN dX7_commonDivisor_20 (by omega) (by omega) (by omega) ?_
          refine ev_istore (i := 5) dX7_commonDivisor_21 (by decide) rfl ?_
          refine ev_iload_n (i := 3) dX7_commonDivisor_23 rfl rfl ?_
          refine ev_istore_n (i := 2) dX7_commonDivisor_24 rfl (by decide) rfl ?_
          refine ev_iload (i := 5) dX7_commonDivisor_25 rfl ?_
          refine ev_istore_n (i := 3) dX7_commonDivisor_27 rfl (by decide) rfl ?_
          refine ev_incN dX7_commonDivisor_28 (by rfl) (by decide) rfl ?_
          refine ev_goto 7 dX7_commonDivisor_31 (by decide) ?_
          rw [hr]
          refine two y 0 _ _ (by omega) ?_ ?_
          · omega
          · exact ey
        · have hlt2 := Nat.mod_lt y (show 0 < x % y by omega)
          have eg2 : Nat.gcd (x % y) (y % (x % y)) = Nat.gcd a b := by rw [Nat.gcd_comm (x % y), ← Nat.gcd_rec (x % y) y, Nat.gcd_comm, eg]
          have hh : y % (x % y) < 2 ^ k := by
            have h2 : (2 : Nat) ^ (k + 1) = 2 ^ k + 2 ^ k := by rw [Nat.pow_succ]; omega
            have h3 := Nat.mod_add_div y (x % y)
            have h4 : 1 ≤ y / (x % y) := (Nat.one_le_div_iff (by omega)).mpr (Nat.le_of_lt hlt)
            have h5 : x % y ≤ (x % y) * (y / (x % y)) := Nat.le_mul_of_pos_right _ h4
            omega
          refine ev_iload (i := 4) dX7_commonDivisor_7 rfl ?_
          refine ev_bipush (v := nI 64) dX7_commonDivisor_9 rfl ?_
          refine ev_icmp_geN 34 dX7_commonDivisor_11 (by decide) (by omega) (by omega) (fun b11 => by exfalso; omega) (fun b11 => ?_)
          refine ev_iload_n (i := 3) dX7_commonDivisor_14 rfl rfl ?_
          refine ev_if_eqN 34 dX7_commonDivisor_15 (by decide) (by omega) (fun b15 => by exfalso; omega) (fun b15 => ?_)
          refine ev_iload_n (i := 2) dX7_commonDivisor_18 rfl rfl ?_
          refine ev_iload_n (i := 3) dX7_commonDivisor_19 rfl rfl ?_
          refine ev_iremN dX7_commonDivisor_20 (by omega) (by omega) (by omega) ?_
          refine ev_istore (i := 5) dX7_commonDivisor_21 (by decide) rfl ?_
          refine ev_iload_n (i := 3) dX7_commonDivisor_23 rfl rfl ?_
          refine ev_istore_n (i := 2) dX7_commonDivisor_24 rfl (by decide) rfl ?_
          refine ev_iload (i := 5) dX7_commonDivisor_25 rfl ?_
          refine ev_istore_n (i := 3) dX7_commonDivisor_27 rfl (by decide) rfl ?_
          refine ev_incN dX7_commonDivisor_28 (by rfl) (by decide) rfl ?_
          refine ev_goto 7 dX7_commonDivisor_31 (by decide) ?_
          refine one y (x % y) _ _ (by omega) (by omega) (by omega) (by omega) (fun st1 lx hst => ih _ _ st1 lx (by omega) (by omega) hh (by omega) eg2)
  have h31 := lp 31 a b 0 .null ha hb hb (by omega) rfl
  refine ev_iload_n (i := 0) dX7_commonDivisor_0 rfl rfl ?_
  refine ev_istore_n (i := 2) dX7_commonDivisor_1 rfl (by decide) rfl ?_
  refine ev_iload_n (i := 1) dX7_commonDivisor_2 rfl rfl ?_
  refine ev_istore_n (i := 3) dX7_commonDivisor_3 rfl (by decide) rfl ?_
  refine ev_iconst (v := nI 0) dX7_commonDivisor_4 rfl ?_
  refine ev_istore (i := 4) dX7_commonDivisor_5 (by decide) rfl ?_
  exact h31
theorem c_leastTerms {a b : Nat} {u : Bool} (ha : a < 2 ^ 31) (hb : b < 2 ^ 31) (hb0 : 0 < b) (hp : P (some (.int (nI ((if u = true then a else b) / Nat.gcd a b)))) M) : Ev N (d + 1) mX7_leastTerms none 0 [.int (nI a), .int (nI b), .int (bI u), .null, .null] [] M P := by
  have hg : 0 < Nat.gcd a b := Nat.gcd_pos_of_pos_right a hb0
  have hg2 : Nat.gcd a b ≤ b := Nat.gcd_le_right a hb0
  cases u with
  | true =>
    refine ev_iload_n (i := 0) dX7_leastTerms_0 rfl rfl ?_
    refine ev_iload_n (i := 1) dX7_leastTerms_1 rfl rfl ?_
    refine ev_S2 (μ1 := mX7_commonDivisor) dX7_leastTerms_2 sX7_276 okX7_commonDivisor (Nat.le_of_ble_eq_true rfl) (Nat.le_of_ble_eq_true rfl) ?_
    refine c_commonDivisor ha hb ?_
    refine ev_istore_n (i := 3) dX7_leastTerms_5 rfl (by decide) rfl ?_
    refine ev_iload_n (i := 2) dX7_leastTerms_6 rfl rfl ?_
    refine ev_if_eqB 14 dX7_leastTerms_7 (by decide) (fun b7 => by cases b7) (fun b7 => ?_)
    refine ev_iload_n (i := 0) dX7_leastTerms_10 rfl rfl ?_
    refine ev_goto 15 dX7_leastTerms_11 (by decide) ?_
    refine ev_istore (i := 4) dX7_leastTerms_15 (by decide) rfl ?_
    refine ev_iload_n (i := 3) dX7_leastTerms_17 rfl rfl ?_
    refine ev_if_leN 28 dX7_leastTerms_18 (by decide) (by omega) (fun b18 => by exfalso; omega) (fun b18 => ?_)
    refine ev_iload (i := 4) dX7_leastTerms_21 rfl ?_
    refine ev_iload_n (i := 3) dX7_leastTerms_23 rfl rfl ?_
    refine ev_idivN dX7_leastTerms_24 (by omega) (by omega) (by omega) ?_
    refine ev_goto 30 dX7_leastTerms_25 (by decide) ?_
    refine ev_reti dX7_leastTerms_30 rfl rfl ?_
    exact hp
  | false =>
    refine ev_iload_n (i := 0) dX7_leastTerms_0 rfl rfl ?_
    refine ev_iload_n (i := 1) dX7_leastTerms_1 rfl rfl ?_
    refine ev_S2 (μ1 := mX7_commonDivisor) dX7_leastTerms_2 sX7_276 okX7_commonDivisor (Nat.le_of_ble_eq_true rfl) (Nat.le_of_ble_eq_true rfl) ?_
    refine c_commonDivisor ha hb ?_
    refine ev_istore_n (i := 3) dX7_leastTerms_5 rfl (by decide) rfl ?_
    refine ev_iload_n (i := 2) dX7_leastTerms_6 rfl rfl ?_
    refine ev_if_eqB 14 dX7_leastTerms_7 (by decide) (fun b7 => ?_) (fun b7 => by cases b7)
    refine ev_iload_n (i := 1) dX7_leastTerms_14 rfl rfl ?_
    refine ev_istore (i := 4) dX7_leastTerms_15 (by decide) rfl ?_
    refine ev_iload_n (i := 3) dX7_leastTerms_17 rfl rfl ?_
    refine ev_if_leN 28 dX7_leastTerms_18 (by decide) (by omega) (fun b18 => by exfalso; omega) (fun b18 => ?_)
    refine ev_iload (i := 4) dX7_leastTerms_21 rfl ?_
    refine ev_iload_n (i := 3) dX7_leastTerms_23 rfl rfl ?_
    refine ev_idivN dX7_leastTerms_24 (by omega) (by omega) (by omega) ?_
    refine ev_goto 30 dX7_leastTerms_25 (by decide) ?_
    refine ev_reti dX7_leastTerms_30 rfl rfl ?_
    exact hp
end STB
