theorem sN_add (g f : Nat → Nat) : ∀ n, sN (fun i => g i + f i) n = sN g n + sN f n
  | 0 => rfl
  | n + 1 => by
    show sN (fun i => g i + f i) n + (g n + f n) = (sN g n + g n) + (sN f n + f n)
    rw [sN_add g f n]; omega
theorem sN_mul (k : Nat) (g : Nat → Nat) : ∀ n, sN (fun i => k * g i) n = k * sN g n
  | 0 => rfl
  | n + 1 => by
    show sN (fun i => k * g i) n + k * g n = k * (sN g n + g n)
    rw [sN_mul k g n, Nat.mul_add]
theorem sN_swap (f : Nat → Nat → Nat) (m : Nat) : ∀ n, sN (fun i => sN (fun j => f i j) m) n = sN (fun j => sN (fun i => f i j) n) m
  | 0 => by
    have : ∀ m, sN (fun j => sN (fun i => f i j) 0) m = 0 := by
      intro m
      induction m with
      | zero => rfl
      | succ m ih => show sN _ m + 0 = 0; rw [ih]
    exact (this m).symm
  | n + 1 => by
    show sN (fun i => sN (fun j => f i j) m) n + sN (fun j => f n j) m = _
    rw [sN_swap f m n, ← sN_add]
    exact sN_cong (fun j _ => rfl)
theorem sN_ext {g : Nat → Nat} {n : Nat} : ∀ {m : Nat}, (∀ i, n ≤ i → i < n + m → g i = 0) → sN g (n + m) = sN g n
  | 0, _ => rfl
  | m + 1, h => by
    show sN g (n + m) + g (n + m) = _
    rw [h (n + m) (by omega) (by omega), Nat.add_zero, sN_ext (fun i h1 h2 => h i h1 (by omega))]
theorem tb_b (n k : Nat) : n / 2 ^ k % 2 = if n.testBit k = true then 1 else 0 := by
  split
  · next h => exact (tb_d n k).mpr h
  · next h =>
    have : ¬ n / 2 ^ k % 2 = 1 := fun z => h ((tb_d n k).mp z)
    omega
theorem cnt_bN {p : Nat → Bool} {n : Nat} (hn : n ≤ 12) : cnt (bN p n) = sN (fun i => if p i = true then 1 else 0) n := by
  unfold cnt
  have e1 : sN (fun k => bN p n / 2 ^ k % 2) 12 = sN (fun k => if k < n ∧ p k = true then 1 else 0) 12 := sN_cong (fun i _ => by
    rw [tb_b, bN_tb]
    by_cases h : i < n
    · simp [h]
    · simp [h])
  have e2 := sN_ext (g := fun k => if k < n ∧ p k = true then 1 else 0) (n := n) (m := 12 - n) (fun i h1 h2 => if_neg (fun z => by omega))
  rw [show n + (12 - n) = 12 by omega] at e2
  rw [e1, e2]
  exact sN_cong (fun i hi => by simp [hi])
/-- the letters that show a cell -/
def kcN (l : lt) (c : Nat) : Nat := bN (fun x => (shBy l (2 ^ x)).testBit c) l.1
def shW (n x K : Nat) : Nat := sN (fun S => if S.testBit x = false ∧ S &&& K = 0 then wyN (cnt S) * wyN (n - 1 - cnt S) else 0) (2 ^ n)
theorem shW_all : ∀ n, n < 7 → ∀ x, x < n → ∀ K, K < 2 ^ n → K.testBit x = true → shW n x K * cnt K = wyN n := by decide +kernel
theorem sb_i (l : lt) (S c : Nat) : (shBy l S).testBit c = true ↔ ∃ k, k < l.1 ∧ S.testBit k = true ∧ l.2.2.2.1 k ≠ 0 ∧ (l.2.2.2.2 k).testBit c = true := by
  unfold shBy
  rw [oN_tb]
  constructor
  · rintro ⟨k, h1, h2, h3⟩
    rw [Bool.and_eq_true, decide_eq_true_eq] at h2
    exact ⟨k, h1, h2.1, h2.2, h3⟩
  · rintro ⟨k, h1, h2, h3, h4⟩
    exact ⟨k, h1, by rw [h2, decide_eq_true h3]; rfl, h4⟩
theorem sb_or (l : lt) (S T c : Nat) : (shBy l (S ||| T)).testBit c = ((shBy l S).testBit c || (shBy l T).testBit c) := by
  rw [Bool.eq_iff_iff, Bool.or_eq_true, sb_i, sb_i, sb_i]
  constructor
  · rintro ⟨k, h1, h2, h3, h4⟩
    rw [Nat.testBit_or, Bool.or_eq_true] at h2
    rcases h2 with h2 | h2
    · exact Or.inl ⟨k, h1, h2, h3, h4⟩
    · exact Or.inr ⟨k, h1, h2, h3, h4⟩
  · rintro (⟨k, h1, h2, h3, h4⟩ | ⟨k, h1, h2, h3, h4⟩)
    · exact ⟨k, h1, by rw [Nat.testBit_or, h2, Bool.true_or], h3, h4⟩
    · exact ⟨k, h1, by rw [Nat.testBit_or, h2, Bool.or_true], h3, h4⟩
theorem kc_i (l : lt) (S c : Nat) : (shBy l S).testBit c = false ↔ S &&& kcN l c = 0 := by
  constructor
  · intro h
    apply Nat.eq_of_testBit_eq
    intro i
    rw [Nat.zero_testBit, Nat.testBit_and]
    unfold kcN
    rw [bN_tb, Bool.eq_false_iff]
    intro z
    rw [Bool.and_eq_true, Bool.and_eq_true, decide_eq_true_eq, sb_i] at z
    obtain ⟨z1, z2, k, h1, h2, h3, h4⟩ := z
    rw [Nat.testBit_two_pow, decide_eq_true_eq] at h2
    subst h2
    have : (shBy l S).testBit c = true := (sb_i l S c).mpr ⟨i, h1, z1, h3, h4⟩
    rw [h] at this
    cases this
  · intro h
    rw [Bool.eq_false_iff]
    intro z
    obtain ⟨k, h1, h2, h3, h4⟩ := (sb_i l S c).mp z
    have : (S &&& kcN l c).testBit k = true := by
      rw [Nat.testBit_and, h2]
      unfold kcN
      rw [bN_tb, decide_eq_true h1, (sb_i l (2 ^ k) c).mpr ⟨k, h1, by rw [Nat.testBit_two_pow, decide_eq_true rfl], h3, h4⟩]
      rfl
    rw [h, Nat.zero_testBit] at this
    cases this
theorem v_or (l : lt) (S x : Nat) : cnt (shBy l (S ||| 2 ^ x)) = cnt (shBy l S) + sN (fun c => if (shBy l (2 ^ x)).testBit c = true ∧ S &&& kcN l c = 0 then 1 else 0) 12 := by
  unfold cnt
  rw [← sN_add]
  refine sN_cong (fun c _ => ?_)
  rw [tb_b, tb_b, sb_or]
  cases h : (shBy l S).testBit c with
  | false =>
    have := (kc_i l S c).mp h
    simp [this]
  | true =>
    have : ¬ S &&& kcN l c = 0 := fun z => by rw [(kc_i l S c).mpr z] at h; cases h
    simp [this]
def upT (l : lt) (x S : Nat) : Nat := if S.testBit x = true then 0 else wyN (cnt S) * wyN (l.1 - 1 - cnt S) * (cnt (shBy l (S ||| 2 ^ x)) - cnt (shBy l S))
theorem sN_00 : ∀ n, sN (fun _ => 0) n = 0
  | 0 => rfl
  | n + 1 => by show sN (fun _ => 0) n + 0 = 0; rw [sN_00 n]
theorem up_eq (l : lt) (x : Nat) : sN (upT l x) (2 ^ l.1) = sN (fun c => if (shBy l (2 ^ x)).testBit c = true then shW l.1 x (kcN l c) else 0) 12 := by
  have e1 : ∀ S, upT l x S = sN (fun c => if (shBy l (2 ^ x)).testBit c = true then (if S.testBit x = false ∧ S &&& kcN l c = 0 then wyN (cnt S) * wyN (l.1 - 1 - cnt S) else 0) else 0) 12 := by
    intro S
    unfold upT
    cases hb : S.testBit x with
    | true =>
      rw [if_pos rfl]
      refine (Eq.trans (sN_cong (fun c _ => ?_)) (sN_00 12)).symm
      split
      · rw [if_neg (fun z => by cases z.1)]
      · rfl
    | false =>
      rw [if_neg (by decide), v_or, Nat.add_sub_cancel_left, ← sN_mul]
      refine sN_cong (fun c _ => ?_)
      by_cases h1 : (shBy l (2 ^ x)).testBit c = true
      · by_cases h2 : S &&& kcN l c = 0
        · rw [if_pos ⟨h1, h2⟩, if_pos h1, if_pos ⟨rfl, h2⟩, Nat.mul_one]
        · rw [if_neg (fun z => h2 z.2), if_pos h1, if_neg (fun z => h2 z.2), Nat.mul_zero]
      · rw [if_neg (fun z => h1 z.1), if_neg h1, Nat.mul_zero]
  rw [sN_cong (fun S _ => e1 S), sN_swap]
  refine sN_cong (fun c _ => ?_)
  by_cases h1 : (shBy l (2 ^ x)).testBit c = true
  · rw [if_pos h1]
    exact sN_cong (fun S _ => by rw [if_pos h1])
  · rw [if_neg h1]
    exact (sN_cong (fun S _ => by rw [if_neg h1])).trans (sN_00 _)
theorem sw_cnt {l : lt} (h6 : l.1 ≤ 6) (c : Nat) : shwN l c = cnt (kcN l c) := by
  unfold shwN kcN
  rw [cnt_bN (by omega)]
  exact sN_cong (fun i _ => tb_b _ _)
theorem sh_main {l : lt} (h6 : l.1 ≤ 6) {x : Nat} (hx : x < l.1) : sN (upT l x) (2 ^ l.1) * 60 = shP l x * wyN l.1 := by
  rw [up_eq, Nat.mul_comm, ← sN_mul, Nat.mul_comm]
  unfold shP
  rw [← sN_mul]
  refine sN_cong (fun c _ => ?_)
  by_cases h1 : (shBy l (2 ^ x)).testBit c = true
  · have hK : kcN l c < 2 ^ l.1 := bN_lt _ _
    have hKx : (kcN l c).testBit x = true := by unfold kcN; rw [bN_tb, decide_eq_true hx, h1]; rfl
    have hW := shW_all l.1 (by omega) x hx (kcN l c) hK hKx
    have hk6 : cnt (kcN l c) ≤ 6 := by
      unfold kcN
      rw [cnt_bN (by omega)]
      have := sN_le (g := fun i => if (shBy l (2 ^ i)).testBit c = true then 1 else 0) (b := 1) (n := l.1) (fun i _ => by show (if _ then 1 else 0) ≤ 1; split <;> omega)
      omega
    have hk1 : 0 < cnt (kcN l c) := by
      rcases Nat.eq_zero_or_pos (cnt (kcN l c)) with z | z
      · have := cnt_0 (Nat.lt_of_lt_of_le hK (show 2 ^ l.1 ≤ 4096 from pw_le (b := 12) (by omega))) z
        rw [this, Nat.zero_testBit] at hKx
        cases hKx
      · exact z
    rw [if_pos h1, sw_cnt h6, if_pos ⟨h1, hk1⟩, ← hW]
    rcases (show cnt (kcN l c) = 1 ∨ cnt (kcN l c) = 2 ∨ cnt (kcN l c) = 3 ∨ cnt (kcN l c) = 4 ∨ cnt (kcN l c) = 5 ∨ cnt (kcN l c) = 6 by omega) with z | z | z | z | z | z <;> rw [z] <;> omega
  · rw [if_neg h1, if_neg (fun z => h1 z.1)]
    rfl
theorem frac_eq {p r q s : Nat} (h : p * s = q * r) (hr : 0 < r) (hs : 0 < s) : p / Nat.gcd p r = q / Nat.gcd q s ∧ r / Nat.gcd p r = s / Nat.gcd q s := by
  have hg : 0 < Nat.gcd p r := Nat.gcd_pos_of_pos_right p hr
  have hg2 : 0 < Nat.gcd q s := Nat.gcd_pos_of_pos_right q hs
  have c1 : Nat.Coprime (p / Nat.gcd p r) (r / Nat.gcd p r) := Nat.coprime_div_gcd_div_gcd hg
  have c2 : Nat.Coprime (q / Nat.gcd q s) (s / Nat.gcd q s) := Nat.coprime_div_gcd_div_gcd hg2
  have e1 : p / Nat.gcd p r * Nat.gcd p r = p := Nat.div_mul_cancel (Nat.gcd_dvd_left p r)
  have e2 : r / Nat.gcd p r * Nat.gcd p r = r := Nat.div_mul_cancel (Nat.gcd_dvd_right p r)
  have e3 : q / Nat.gcd q s * Nat.gcd q s = q := Nat.div_mul_cancel (Nat.gcd_dvd_left q s)
  have e4 : s / Nat.gcd q s * Nat.gcd q s = s := Nat.div_mul_cancel (Nat.gcd_dvd_right q s)
  generalize Nat.gcd p r = g at *
  generalize Nat.gcd q s = k at *
  generalize p / g = p1 at *
  generalize r / g = r1 at *
  generalize q / k = q1 at *
  generalize s / k = s1 at *
  have h2 : p1 * s1 = q1 * r1 := by
    have : p1 * s1 * (g * k) = q1 * r1 * (g * k) := by
      rw [← e1, ← e2, ← e3, ← e4] at h
      calc p1 * s1 * (g * k) = p1 * g * (s1 * k) := by ac_rfl
        _ = q1 * k * (r1 * g) := h
        _ = q1 * r1 * (g * k) := by ac_rfl
    exact Nat.eq_of_mul_eq_mul_right (Nat.mul_pos hg hg2) this
  have a1 : p1 ∣ q1 := c1.dvd_of_dvd_mul_right ⟨s1, by rw [h2]⟩
  have a2 : q1 ∣ p1 := c2.dvd_of_dvd_mul_right ⟨r1, by rw [h2]⟩
  have a3 : r1 ∣ s1 := c1.symm.dvd_of_dvd_mul_left ⟨q1, by rw [h2, Nat.mul_comm]⟩
  have a4 : s1 ∣ r1 := c2.symm.dvd_of_dvd_mul_left ⟨p1, by rw [← h2, Nat.mul_comm]⟩
  exact ⟨Nat.dvd_antisymm a1 a2, Nat.dvd_antisymm a3 a4⟩
theorem ct_no : ∀ n, n < 7 → ∀ x, x < n → ∀ S, S < 2 ^ n → S.testBit x = false → cnt S ≤ n - 1 := by decide +kernel
theorem wy_le : ∀ n, n < 7 → 0 < wyN n ∧ wyN n ≤ 720 := by decide +kernel
theorem kR_v {M M1 : mM} {s : cs} (h : kR M s) (hg : ag M M1 86 87) (hn : ∃ f, M1 86 = .inl (0, 64, .inl f)) : kR M1 s := by
  obtain ⟨h2, h3, h4, ⟨q, h5⟩, h6, h7, h8, ⟨⟨f2, h9⟩, -, f3, h10⟩⟩ := h
  exact ⟨arr_ag h2 hg (by omega), kML_ag h3 hg (by omega), kG_ag h4 hg (by omega), ⟨q, kG_ag h5 hg (by omega)⟩, kBk_ag h6 hg (by omega), kKp_ag h7 hg (by omega), kMV_ag h8 hg (by omega), ⟨⟨f2, (hg _ (by omega)).trans h9⟩, hn, f3, (hg _ (by omega)).trans h10⟩⟩
section MED
variable {M : mM} {P : Option Value → mM → Prop} {s : cs}

theorem R_share {x : Int32} {u : Bool} (h : kM M s) (ho : cOk s) (hp : ∀ M1, ag M M1 72 88 → kM M1 (s) → P (some (.int (a_share s x u))) M1) : Ev 88 7 mX8_share none 0 [.ref 72, .int x, .int (bI u), .null, .null, .null] [] M P := by
  refine m_thr dX8_share_0 dX8_share_1 dX8_share_2 fwX8_60 h (fun M0 a0 h => ?_)
  replace hp : ∀ M1, ag M0 M1 72 88 → kM M1 (s) → P (some (.int (a_share s x u))) M1 := fun M1 ha hk => hp M1 (ag_tr (ag_wd a0 : ag M M0 72 88) ha) hk
  clear a0
  obtain ⟨t, l, p, a, sl, v, sd⟩ := s
  obtain ⟨⟨e, x0⟩, hR⟩ := id h
  obtain ⟨h1, h2, h3, h11, h4, h5, h6, h7⟩ : arr M0 73 40 t.1 t.2 ∧ kML M0 l ∧ kG M0 79 p ∧ (∃ q, kG M0 80 q) ∧ kBk M0 a ∧ kKp M0 sl ∧ kMV M0 v ∧ kX M0 := id hR
  obtain ⟨o1, o2, o3, o4, o5, o6, o7⟩ : txOk t ∧ ltOk l ∧ pgOk p ∧ (∀ q ∈ a, pgOk q) ∧ a.length ≤ 14 ∧ (∀ i q, sl i = some q → pgOk q) ∧ ovOk v := ho
  have hO : kO M0 e t.1 l.1 a.length v.1 sd := x0
  have hl6 := o2.1
  have hv6 := o7.1
  unfold kO at x0
  unfold a_share at hp
  have h64 := pw_64 hl6
  have hpos := Nat.two_pow_pos l.1
  cases hx : inR x l.1 with
  | true =>
    rw [if_pos hx] at hp
    obtain ⟨w, hw, rfl⟩ := inR_of hx (by omega)
    rw [n_cl (by omega)] at hp
    obtain ⟨hw1, hw2⟩ := wy_le l.1 (by omega)
    have hmain := sh_main hl6 hw
    have hshp : shP l w ≤ 12 * 60 := sN_le (fun c _ => by
      show (if _ then 60 / shwN l c else 0) ≤ 60
      split
      · exact Nat.div_le_self _ _
      · omega)
    have hup : sN (upT l w) (2 ^ l.1) ≤ 720 * 720 := by
      have := Nat.mul_le_mul hshp hw2
      omega
    obtain ⟨F1, F2⟩ := frac_eq hmain hw1 (by decide)
    have l2 : ∀ (j c : Nat) (M1 : mM) (f1 : Nat → Int32) (lx : Value), c + j = 2 ^ l.1 → ag M0 M1 72 88 → kO M1 e t.1 l.1 a.length v.1 sd → kR M1 (t, l, p, a, sl, v, sd) → M1 86 = .inl (0, 64, .inl f1) → (∀ S, S < 2 ^ l.1 → f1 S = nI (cnt (shBy l S))) → Ev 88 7 mX8_share none 50 [.ref 72, .int (nI w), .int (bI u), .int (nI (sN (upT l w) c)), .int (nI c), lx] [] M1 P := by
      intro j
      induction j with
      | zero =>
        intro c M1 f1 lx hc ha yO yR y86 hf
        obtain rfl : c = 2 ^ l.1 := by omega
        have z0 := yO
        unfold kO at z0
        refine ev_iload (i := 4) dX8_share_50 rfl ?_
        refine ev_aload_n (i := 0) dX8_share_52 rfl rfl ?_
        refine ev_V0 (μ1 := mX8_everyone) dX8_share_53 sX8_138 okX8_everyone (by first | omega | decide) (by first | assumption | (simp (disch := omega) only [mu_s, mu_n]; first | assumption | rfl)) (Nat.le_of_ble_eq_true rfl) (Nat.le_of_ble_eq_true rfl) ?_
        refine c_everyone yO hl6 ?_
        refine ev_icmp_gtN 122 dX8_share_56 (by decide) (by omega) (by omega) (fun b56 => ?_) (fun b56 => by exfalso; omega)
        refine ev_iload_n (i := 3) dX8_share_122 rfl rfl ?_
        refine ev_aload_n (i := 0) dX8_share_123 rfl rfl ?_
        refine ev_getfield dX8_share_124 fX8_64 (by first | omega | decide) (by first | assumption | (simp (disch := omega) only [mu_s, mu_n]; first | assumption | rfl)) (by rfl) ?_
        refine ev_S1 (μ1 := mX8_ways) dX8_share_127 sX8_169 okX8_ways (Nat.le_of_ble_eq_true rfl) (Nat.le_of_ble_eq_true rfl) ?_
        refine c_mWays (by omega) ?_
        refine ev_iload_n (i := 2) dX8_share_130 rfl rfl ?_
        refine ev_S3 (μ1 := mX8_fraction) dX8_share_131 sX8_172 okX8_fraction (Nat.le_of_ble_eq_true rfl) (Nat.le_of_ble_eq_true rfl) ?_
        refine c_mFraction (by omega) (by omega) hw1 ?_
        refine ev_reti dX8_share_134 rfl rfl ?_
        refine e_retv ?_ (hp M1 ha ⟨⟨e, yO⟩, yR⟩)
        cases u with
        | true => exact congrArg nI F1
        | false => exact congrArg nI F2
      | succ j ih =>
        intro c M1 f1 lx hc ha yO yR y86 hf
        have z0 := yO
        unfold kO at z0
        have hor : c ||| 2 ^ w < 2 ^ l.1 := Nat.or_lt_two_pow (by omega) (Nat.pow_lt_pow_right (by decide) hw)
        cases hb : c.testBit w with
        | true =>
          have r := fun lx => ih (c + 1) M1 f1 lx (by omega) ha yO yR y86 hf
          rw [← sN_z (g := upT l w) (n := c) (by unfold upT; rw [if_pos hb])] at r
          refine ev_iload (i := 4) dX8_share_50 rfl ?_
          refine ev_aload_n (i := 0) dX8_share_52 rfl rfl ?_
          refine ev_V0 (μ1 := mX8_everyone) dX8_share_53 sX8_138 okX8_everyone (by first | omega | decide) (by first | assumption | (simp (disch := omega) only [mu_s, mu_n]; first | assumption | rfl)) (Nat.le_of_ble_eq_true rfl) (Nat.le_of_ble_eq_true rfl) ?_
          refine c_everyone yO hl6 ?_
          refine ev_icmp_gtN 122 dX8_share_56 (by decide) (by omega) (by omega) (fun b56 => by exfalso; omega) (fun b56 => ?_)
          refine ev_iload (i := 4) dX8_share_59 rfl ?_
          refine ev_iload_n (i := 1) dX8_share_61 rfl rfl ?_
          refine ev_S2 (μ1 := mX8_has) dX8_share_62 sX8_99 okX8_has (Nat.le_of_ble_eq_true rfl) (Nat.le_of_ble_eq_true rfl) ?_
          refine c_mHas (by omega) (by omega) ?_
          refine ev_if_neB 116 dX8_share_65 (by decide) (fun b65 => ?_) (fun b65 => by rw [hb] at b65; cases b65)
          refine ev_incN dX8_share_116 (by rfl) (by decide) rfl ?_
          refine ev_goto 50 dX8_share_119 (by decide) ?_
          exact r _
        | false =>
          have r := fun lx => ih (c + 1) M1 f1 lx (by omega) ha yO yR y86 hf
          rw [← sN_s (g := upT l w) (n := c) (by unfold upT; rw [if_neg (by rw [hb]; decide)])] at r
          have hcn := ct_no l.1 (by omega) w hw c (by omega) hb
          have hvo := v_or l c w
          refine ev_iload (i := 4) dX8_share_50 rfl ?_
          refine ev_aload_n (i := 0) dX8_share_52 rfl rfl ?_
          refine ev_V0 (μ1 := mX8_everyone) dX8_share_53 sX8_138 okX8_everyone (by first | omega | decide) (by first | assumption | (simp (disch := omega) only [mu_s, mu_n]; first | assumption | rfl)) (Nat.le_of_ble_eq_true rfl) (Nat.le_of_ble_eq_true rfl) ?_
          refine c_everyone yO hl6 ?_
          refine ev_icmp_gtN 122 dX8_share_56 (by decide) (by omega) (by omega) (fun b56 => by exfalso; omega) (fun b56 => ?_)
          refine ev_iload (i := 4) dX8_share_59 rfl ?_
          refine ev_iload_n (i := 1) dX8_share_61 rfl rfl ?_
          refine ev_S2 (μ1 := mX8_has) dX8_share_62 sX8_99 okX8_has (Nat.le_of_ble_eq_true rfl) (Nat.le_of_ble_eq_true rfl) ?_
          refine c_mHas (by omega) (by omega) ?_
          refine ev_if_neB 116 dX8_share_65 (by decide) (fun b65 => by rw [hb] at b65; cases b65) (fun b65 => ?_)
          refine ev_iload (i := 4) dX8_share_68 rfl ?_
          refine ev_S1 (μ1 := mX8_many) dX8_share_70 sX8_127 okX8_many (Nat.le_of_ble_eq_true rfl) (Nat.le_of_ble_eq_true rfl) ?_
          refine c_many (by omega) ?_
          refine ev_istore (i := 5) dX8_share_73 (by decide) rfl ?_
          refine ev_iload_n (i := 3) dX8_share_75 rfl rfl ?_
          refine ev_iload (i := 5) dX8_share_76 rfl ?_
          refine ev_S1 (μ1 := mX8_ways) dX8_share_78 sX8_169 okX8_ways (Nat.le_of_ble_eq_true rfl) (Nat.le_of_ble_eq_true rfl) ?_
          refine c_mWays (by omega) ?_
          refine ev_aload_n (i := 0) dX8_share_81 rfl rfl ?_
          refine ev_getfield dX8_share_82 fX8_64 (by first | omega | decide) (by first | assumption | (simp (disch := omega) only [mu_s, mu_n]; first | assumption | rfl)) (by rfl) ?_
          refine ev_iconst (v := nI 1) dX8_share_85 rfl ?_
          refine ev_isubN dX8_share_86 (by omega) ?_
          refine ev_iload (i := 5) dX8_share_87 rfl ?_
          refine ev_isubN dX8_share_89 (by omega) ?_
          refine ev_S1 (μ1 := mX8_ways) dX8_share_90 sX8_169 okX8_ways (Nat.le_of_ble_eq_true rfl) (Nat.le_of_ble_eq_true rfl) ?_
          refine c_mWays (by omega) ?_
          refine ev_imulN dX8_share_93 ?_
          refine ev_aload_n (i := 0) dX8_share_94 rfl rfl ?_
          refine ev_getfield dX8_share_95 fX8_50 (by first | omega | decide) (by first | assumption | (simp (disch := omega) only [mu_s, mu_n]; first | assumption | rfl)) (by rfl) ?_
          refine ev_iload (i := 4) dX8_share_98 rfl ?_
          refine ev_iconst (v := nI 1) dX8_share_100 rfl ?_
          refine ev_iload_n (i := 1) dX8_share_101 rfl rfl ?_
          refine ev_ishl1 dX8_share_102 (by omega) ?_
          refine ev_iorN dX8_share_103 ?_
          refine ev_ialoadN dX8_share_104 (by first | omega | decide) (by first | assumption | (simp (disch := omega) only [mu_s, mu_n]; first | assumption | rfl)) (by omega) (by decide) ?_
          refine ev_top (i_op (hf _ hor)) ?_
          refine ev_aload_n (i := 0) dX8_share_105 rfl rfl ?_
          refine ev_getfield dX8_share_106 fX8_50 (by first | omega | decide) (by first | assumption | (simp (disch := omega) only [mu_s, mu_n]; first | assumption | rfl)) (by rfl) ?_
          refine ev_iload (i := 4) dX8_share_109 rfl ?_
          refine ev_ialoadN dX8_share_111 (by first | omega | decide) (by first | assumption | (simp (disch := omega) only [mu_s, mu_n]; first | assumption | rfl)) (by omega) (by decide) ?_
          refine ev_top (i_op (hf c (by omega))) ?_
          refine ev_isubN dX8_share_112 (by omega) ?_
          refine ev_imulN dX8_share_113 ?_
          refine ev_iaddN dX8_share_114 ?_
          refine ev_istore_n (i := 3) dX8_share_115 rfl (by decide) rfl ?_
          refine ev_incN dX8_share_116 (by rfl) (by decide) rfl ?_
          refine ev_goto 50 dX8_share_119 (by decide) ?_
          exact r _
    have l1 : ∀ (j c : Nat) (M1 : mM) (f1 : Nat → Int32), c + j = 2 ^ l.1 → ag M0 M1 86 87 → M1 86 = .inl (0, 64, .inl f1) → (∀ S, S < c → f1 S = nI (cnt (shBy l S))) → Ev 88 7 mX8_share none 17 [.ref 72, .int (nI w), .int (bI u), .int (nI c), .null, .null] [] M1 P := by
      intro j
      induction j with
      | zero =>
        intro c M1 f1 hc ha y86 hf
        obtain rfl : c = 2 ^ l.1 := by omega
        have yO := kO_ag hO ha (by omega)
        have yR := kR_v hR ha ⟨f1, y86⟩
        have z0 := yO
        unfold kO at z0
        refine ev_iload_n (i := 3) dX8_share_17 rfl rfl ?_
        refine ev_aload_n (i := 0) dX8_share_18 rfl rfl ?_
        refine ev_V0 (μ1 := mX8_everyone) dX8_share_19 sX8_138 okX8_everyone (by first | omega | decide) (by first | assumption | (simp (disch := omega) only [mu_s, mu_n]; first | assumption | rfl)) (Nat.le_of_ble_eq_true rfl) (Nat.le_of_ble_eq_true rfl) ?_
        refine c_everyone yO hl6 ?_
        refine ev_icmp_gtN 45 dX8_share_22 (by decide) (by omega) (by omega) (fun b22 => ?_) (fun b22 => by exfalso; omega)
        refine ev_iconst (v := nI 0) dX8_share_45 rfl ?_
        refine ev_istore_n (i := 3) dX8_share_46 rfl (by decide) rfl ?_
        refine ev_iconst (v := nI 0) dX8_share_47 rfl ?_
        refine ev_istore (i := 4) dX8_share_48 (by decide) rfl ?_
        exact l2 (2 ^ l.1) 0 M1 f1 _ (by omega) (ag_wd ha) yO yR y86 hf
      | succ j ih =>
        intro c M1 f1 hc ha y86 hf
        have yO := kO_ag hO ha (by omega)
        have yR := kR_v hR ha ⟨f1, y86⟩
        have z0 := yO
        unfold kO at z0
        have hsb := shBy_lt o2 c
        refine ev_iload_n (i := 3) dX8_share_17 rfl rfl ?_
        refine ev_aload_n (i := 0) dX8_share_18 rfl rfl ?_
        refine ev_V0 (μ1 := mX8_everyone) dX8_share_19 sX8_138 okX8_everyone (by first | omega | decide) (by first | assumption | (simp (disch := omega) only [mu_s, mu_n]; first | assumption | rfl)) (Nat.le_of_ble_eq_true rfl) (Nat.le_of_ble_eq_true rfl) ?_
        refine c_everyone yO hl6 ?_
        refine ev_icmp_gtN 45 dX8_share_22 (by decide) (by omega) (by omega) (fun b22 => by exfalso; omega) (fun b22 => ?_)
        refine ev_aload_n (i := 0) dX8_share_25 rfl rfl ?_
        refine ev_getfield dX8_share_26 fX8_50 (by first | omega | decide) (by first | assumption | (simp (disch := omega) only [mu_s, mu_n]; first | assumption | rfl)) (by rfl) ?_
        refine ev_iload_n (i := 3) dX8_share_29 rfl rfl ?_
        refine ev_aload_n (i := 0) dX8_share_30 rfl rfl ?_
        refine ev_iload_n (i := 3) dX8_share_31 rfl rfl ?_
        refine ev_V1 (μ1 := mX8_showsBy) dX8_share_32 sX8_141 okX8_showsBy (by first | omega | decide) (by first | assumption | (simp (disch := omega) only [mu_s, mu_n]; first | assumption | rfl)) (Nat.le_of_ble_eq_true rfl) (Nat.le_of_ble_eq_true rfl) ?_
        refine c_mShowsBy yO yR.2.1 o2 (by omega) ?_
        refine ev_S1 (μ1 := mX8_many) dX8_share_35 sX8_127 okX8_many (Nat.le_of_ble_eq_true rfl) (Nat.le_of_ble_eq_true rfl) ?_
        refine c_many (by omega) ?_
        refine ev_iastoreN dX8_share_38 (by first | omega | decide) (by first | assumption | (simp (disch := omega) only [mu_s, mu_n]; first | assumption | rfl)) (by omega) (by decide) ?_
        refine ev_incN dX8_share_39 (by rfl) (by decide) rfl ?_
        refine ev_goto 17 dX8_share_42 (by decide) ?_
        exact ih (c + 1) _ _ (by omega) (ag_mu ha (by omega) (by omega)) (mu_s _ _ _) (fun S hS => by
          by_cases z : S = c
          · rw [z]; exact upd_a rfl
          · exact (upd_b z).trans (hf S (by omega)))
    obtain ⟨f0, y0⟩ := h7.2.1
    refine ev_aload_n (i := 0) dX8_share_5 rfl rfl ?_
    refine ev_iload_n (i := 1) dX8_share_6 rfl rfl ?_
    refine ev_V1 (μ1 := mX8_noLetter) dX8_share_7 sX8_113 okX8_noLetter (by first | omega | decide) (by first | assumption | (simp (disch := omega) only [mu_s, mu_n]; first | assumption | rfl)) (Nat.le_of_ble_eq_true rfl) (Nat.le_of_ble_eq_true rfl) ?_
    refine c_noLetter hO hl6 ?_
    refine ev_top (i_op (congrArg bI ((congrArg Bool.not hx).trans rfl : (!inR (nI w) l.1) = false))) ?_
    refine ev_if_eqB 15 dX8_share_10 (by decide) (fun b10 => ?_) (fun b10 => by cases b10)
    refine ev_iconst (v := nI 0) dX8_share_15 rfl ?_
    refine ev_istore_n (i := 3) dX8_share_16 rfl (by decide) rfl ?_
    exact l1 (2 ^ l.1) 0 M0 f0 (by omega) (ag_rf M0 _ _) y0 (fun S hS => absurd hS (Nat.not_lt_zero S))
  | false =>
    rw [hx, if_neg (by decide)] at hp
    refine ev_aload_n (i := 0) dX8_share_5 rfl rfl ?_
    refine ev_iload_n (i := 1) dX8_share_6 rfl rfl ?_
    refine ev_V1 (μ1 := mX8_noLetter) dX8_share_7 sX8_113 okX8_noLetter (by first | omega | decide) (by first | assumption | (simp (disch := omega) only [mu_s, mu_n]; first | assumption | rfl)) (Nat.le_of_ble_eq_true rfl) (Nat.le_of_ble_eq_true rfl) ?_
    refine c_noLetter hO hl6 ?_
    refine ev_top (i_op (congrArg bI ((congrArg Bool.not hx).trans rfl : (!inR x l.1) = true))) ?_
    refine ev_if_eqB 15 dX8_share_10 (by decide) (fun b10 => by cases b10) (fun b10 => ?_)
    refine ev_iconst (v := (-1)) dX8_share_13 rfl ?_
    refine ev_reti dX8_share_14 rfl rfl ?_
    exact hp M0 (ag_rf M0 _ _) h
end MED
