section MDW
variable {d : Nat} {M : mM} {P : Option Value → mM → Prop}
theorem c_mDivisor {a b : Nat} (ha : a < 2 ^ 31) (hb : b < 2 ^ 31) (hp : P (some (.int (nI (Nat.gcd a b)))) M) : Ev 88 d mX8_divisor none 0 [.int (nI a), .int (nI b), .null, .null, .null] [] M P := by
  have lp : ∀ (y x : Nat) (lx : Value), x < 2 ^ 31 → y < 2 ^ 31 → Nat.gcd x y = Nat.gcd a b → Ev 88 d mX8_divisor none 13 [.int (nI a), .int (nI b), .int (nI x), .int (nI y), lx] [] M P := by
    intro y
    induction y using Nat.strongRecOn with
    | _ y ih =>
      intro x lx hx hy e
      by_cases h0 : y = 0
      · subst h0
        rw [Nat.gcd_zero_right] at e
        subst e
        refine ev_iload_n (i := 3) dX8_divisor_13 rfl rfl ?_
        refine ev_if_eqN 30 dX8_divisor_14 (by decide) (by omega) (fun b14 => ?_) (fun b14 => by exfalso; omega)
        refine ev_iload_n (i := 2) dX8_divisor_30 rfl rfl ?_
        refine ev_reti dX8_divisor_31 rfl rfl ?_
        exact hp
      · have hlt := Nat.mod_lt x (show 0 < y by omega)
        refine ev_iload_n (i := 3) dX8_divisor_13 rfl rfl ?_
        refine ev_if_eqN 30 dX8_divisor_14 (by decide) (by omega) (fun b14 => by exfalso; omega) (fun b14 => ?_)
        refine ev_iload_n (i := 2) dX8_divisor_17 rfl rfl ?_
        refine ev_iload_n (i := 3) dX8_divisor_18 rfl rfl ?_
        refine ev_iremN dX8_divisor_19 (by omega) (by omega) (by omega) ?_
        refine ev_istore (i := 4) dX8_divisor_20 (by decide) rfl ?_
        refine ev_iload_n (i := 3) dX8_divisor_22 rfl rfl ?_
        refine ev_istore_n (i := 2) dX8_divisor_23 rfl (by decide) rfl ?_
        refine ev_iload (i := 4) dX8_divisor_24 rfl ?_
        refine ev_istore_n (i := 3) dX8_divisor_26 rfl (by decide) rfl ?_
        refine ev_goto 13 dX8_divisor_27 (by decide) ?_
        exact ih (x % y) hlt y _ hy (by omega) (by rw [Nat.gcd_comm y, ← Nat.gcd_rec y x, Nat.gcd_comm, e])
  refine ev_iload_n (i := 0) dX8_divisor_0 rfl rfl ?_
  refine ev_if_geN 9 dX8_divisor_1 (by decide) (by omega) (fun b1 => ?_) (fun b1 => by exfalso; omega)
  refine ev_iload_n (i := 0) dX8_divisor_9 rfl rfl ?_
  refine ev_istore_n (i := 2) dX8_divisor_10 rfl (by decide) rfl ?_
  refine ev_iload_n (i := 1) dX8_divisor_11 rfl rfl ?_
  refine ev_istore_n (i := 3) dX8_divisor_12 rfl (by decide) rfl ?_
  exact lp b a _ ha hb rfl
theorem c_mFraction {a b : Nat} {u : Bool} (ha : a < 2 ^ 31) (hb : b < 2 ^ 31) (hb0 : 0 < b) (hp : P (some (.int (nI ((if u = true then a else b) / Nat.gcd a b)))) M) : Ev 88 (d + 1) mX8_fraction none 0 [.int (nI a), .int (nI b), .int (bI u), .null] [] M P := by
  have hg : 0 < Nat.gcd a b := Nat.gcd_pos_of_pos_right a hb0
  have hg2 : Nat.gcd a b ≤ b := Nat.gcd_le_right a hb0
  cases u with
  | true =>
    refine ev_iload_n (i := 0) dX8_fraction_0 rfl rfl ?_
    refine ev_iload_n (i := 1) dX8_fraction_1 rfl rfl ?_
    refine ev_S2 (μ1 := mX8_divisor) dX8_fraction_2 sX8_166 okX8_divisor (Nat.le_of_ble_eq_true rfl) (Nat.le_of_ble_eq_true rfl) ?_
    refine c_mDivisor ha hb ?_
    refine ev_istore_n (i := 3) dX8_fraction_5 rfl (by decide) rfl ?_
    refine ev_iload_n (i := 2) dX8_fraction_6 rfl rfl ?_
    refine ev_if_eqB 16 dX8_fraction_7 (by decide) (fun b7 => by cases b7) (fun b7 => ?_)
    refine ev_iload_n (i := 0) dX8_fraction_10 rfl rfl ?_
    refine ev_iload_n (i := 3) dX8_fraction_11 rfl rfl ?_
    refine ev_idivN dX8_fraction_12 (by omega) (by omega) (by omega) ?_
    refine ev_goto 19 dX8_fraction_13 (by decide) ?_
    refine ev_reti dX8_fraction_19 rfl rfl ?_
    exact hp
  | false =>
    refine ev_iload_n (i := 0) dX8_fraction_0 rfl rfl ?_
    refine ev_iload_n (i := 1) dX8_fraction_1 rfl rfl ?_
    refine ev_S2 (μ1 := mX8_divisor) dX8_fraction_2 sX8_166 okX8_divisor (Nat.le_of_ble_eq_true rfl) (Nat.le_of_ble_eq_true rfl) ?_
    refine c_mDivisor ha hb ?_
    refine ev_istore_n (i := 3) dX8_fraction_5 rfl (by decide) rfl ?_
    refine ev_iload_n (i := 2) dX8_fraction_6 rfl rfl ?_
    refine ev_if_eqB 16 dX8_fraction_7 (by decide) (fun b7 => ?_) (fun b7 => by cases b7)
    refine ev_iload_n (i := 1) dX8_fraction_16 rfl rfl ?_
    refine ev_iload_n (i := 3) dX8_fraction_17 rfl rfl ?_
    refine ev_idivN dX8_fraction_18 (by omega) (by omega) (by omega) ?_
    refine ev_reti dX8_fraction_19 rfl rfl ?_
    exact hp
theorem c_mPower {a n : Nat} (hn : n < 2 ^ 31) (hp : P (some (.int (nI (a ^ n)))) M) : Ev 88 d mX8_power none 0 [.int (nI a), .int (nI n), .null, .null] [] M P := by
  have lp : ∀ (j c : Nat), c + j = n → Ev 88 d mX8_power none 4 [.int (nI a), .int (nI n), .int (nI (a ^ c)), .int (nI c)] [] M P := by
    intro j
    induction j with
    | zero =>
      intro c hc
      obtain rfl : c = n := by omega
      refine ev_iload_n (i := 3) dX8_power_4 rfl rfl ?_
      refine ev_iload_n (i := 1) dX8_power_5 rfl rfl ?_
      refine ev_icmp_geN 19 dX8_power_6 (by decide) (by omega) (by omega) (fun b6 => ?_) (fun b6 => by exfalso; omega)
      refine ev_iload_n (i := 2) dX8_power_19 rfl rfl ?_
      refine ev_reti dX8_power_20 rfl rfl ?_
      exact hp
    | succ j ih =>
      intro c hc
      refine ev_iload_n (i := 3) dX8_power_4 rfl rfl ?_
      refine ev_iload_n (i := 1) dX8_power_5 rfl rfl ?_
      refine ev_icmp_geN 19 dX8_power_6 (by decide) (by omega) (by omega) (fun b6 => by exfalso; omega) (fun b6 => ?_)
      refine ev_iload_n (i := 2) dX8_power_9 rfl rfl ?_
      refine ev_iload_n (i := 0) dX8_power_10 rfl rfl ?_
      refine ev_imulN dX8_power_11 ?_
      refine ev_istore_n (i := 2) dX8_power_12 rfl (by decide) rfl ?_
      refine ev_incN dX8_power_13 (by rfl) (by decide) rfl ?_
      refine ev_goto 4 dX8_power_16 (by decide) ?_
      exact ih (c + 1) (by omega)
  refine ev_iconst (v := nI 1) dX8_power_0 rfl ?_
  refine ev_istore_n (i := 2) dX8_power_1 rfl (by decide) rfl ?_
  refine ev_iconst (v := nI 0) dX8_power_2 rfl ?_
  refine ev_istore_n (i := 3) dX8_power_3 rfl (by decide) rfl ?_
  exact lp n 0 (by omega)
def wyN : Nat → Nat
  | 0 => 1
  | n + 1 => wyN n * (n + 1)
theorem c_mWays {n : Nat} (hn : n < 2 ^ 30) (hp : P (some (.int (nI (wyN n)))) M) : Ev 88 d mX8_ways none 0 [.int (nI n), .null, .null] [] M P := by
  by_cases h0 : n = 0
  · subst h0
    refine ev_iconst (v := nI 1) dX8_ways_0 rfl ?_
    refine ev_istore_n (i := 1) dX8_ways_1 rfl (by decide) rfl ?_
    refine ev_iconst (v := nI 2) dX8_ways_2 rfl ?_
    refine ev_istore_n (i := 2) dX8_ways_3 rfl (by decide) rfl ?_
    refine ev_iload_n (i := 2) dX8_ways_4 rfl rfl ?_
    refine ev_iload_n (i := 0) dX8_ways_5 rfl rfl ?_
    refine ev_icmp_gtN 19 dX8_ways_6 (by decide) (by omega) (by omega) (fun b6 => ?_) (fun b6 => by exfalso; omega)
    refine ev_iload_n (i := 1) dX8_ways_19 rfl rfl ?_
    refine ev_reti dX8_ways_20 rfl rfl ?_
    exact hp
  · have lp : ∀ (j c : Nat), c + j = n → Ev 88 d mX8_ways none 4 [.int (nI n), .int (nI (wyN c)), .int (nI (c + 1))] [] M P := by
      intro j
      induction j with
      | zero =>
        intro c hc
        obtain rfl : c = n := by omega
        refine ev_iload_n (i := 2) dX8_ways_4 rfl rfl ?_
        refine ev_iload_n (i := 0) dX8_ways_5 rfl rfl ?_
        refine ev_icmp_gtN 19 dX8_ways_6 (by decide) (by omega) (by omega) (fun b6 => ?_) (fun b6 => by exfalso; omega)
        refine ev_iload_n (i := 1) dX8_ways_19 rfl rfl ?_
        refine ev_reti dX8_ways_20 rfl rfl ?_
        exact hp
      | succ j ih =>
        intro c hc
        refine ev_iload_n (i := 2) dX8_ways_4 rfl rfl ?_
        refine ev_iload_n (i := 0) dX8_ways_5 rfl rfl ?_
        refine ev_icmp_gtN 19 dX8_ways_6 (by decide) (by omega) (by omega) (fun b6 => by exfalso; omega) (fun b6 => ?_)
        refine ev_iload_n (i := 1) dX8_ways_9 rfl rfl ?_
        refine ev_iload_n (i := 2) dX8_ways_10 rfl rfl ?_
        refine ev_imulN dX8_ways_11 ?_
        refine ev_istore_n (i := 1) dX8_ways_12 rfl (by decide) rfl ?_
        refine ev_incN dX8_ways_13 (by rfl) (by decide) rfl ?_
        refine ev_goto 4 dX8_ways_16 (by decide) ?_
        exact ih (c + 1) (by omega)
    refine ev_iconst (v := nI 1) dX8_ways_0 rfl ?_
    refine ev_istore_n (i := 1) dX8_ways_1 rfl (by decide) rfl ?_
    refine ev_iconst (v := nI 2) dX8_ways_2 rfl ?_
    refine ev_istore_n (i := 2) dX8_ways_3 rfl (by decide) rfl ?_
    exact lp (n - 1) 1 (by omega)
theorem c_mClerk {f x : Nat} (hf : f < 2 ^ 30) (hx : x < 2 ^ 31) (hp : P (some (.int (clkI f x))) M) : Ev 88 d mX8_clerk none 0 [.int (nI f), .int (nI x)] [] M P := by
  unfold clkI at hp
  by_cases h : x < f
  · rw [if_pos h] at hp
    refine ev_iconst (v := nI 2) dX8_clerk_0 rfl ?_
    refine ev_iload_n (i := 0) dX8_clerk_1 rfl rfl ?_
    refine ev_imulN dX8_clerk_2 ?_
    refine ev_iload_n (i := 0) dX8_clerk_3 rfl rfl ?_
    refine ev_iload_n (i := 1) dX8_clerk_4 rfl rfl ?_
    refine ev_icmp_leN 12 dX8_clerk_5 (by decide) (by omega) (by omega) (fun b5 => by exfalso; omega) (fun b5 => ?_)
    refine ev_iconst (v := nI 5) dX8_clerk_8 rfl ?_
    refine ev_goto 13 dX8_clerk_9 (by decide) ?_
    refine ev_isub dX8_clerk_13 ?_
    refine ev_reti dX8_clerk_14 rfl rfl ?_
    exact hp
  · rw [if_neg h] at hp
    refine ev_iconst (v := nI 2) dX8_clerk_0 rfl ?_
    refine ev_iload_n (i := 0) dX8_clerk_1 rfl rfl ?_
    refine ev_imulN dX8_clerk_2 ?_
    refine ev_iload_n (i := 0) dX8_clerk_3 rfl rfl ?_
    refine ev_iload_n (i := 1) dX8_clerk_4 rfl rfl ?_
    refine ev_icmp_leN 12 dX8_clerk_5 (by decide) (by omega) (by omega) (fun b5 => ?_) (fun b5 => by exfalso; omega)
    refine ev_iconst (v := nI 0) dX8_clerk_12 rfl ?_
    refine ev_isubN dX8_clerk_13 (by omega) ?_
    refine ev_reti dX8_clerk_14 rfl rfl ?_
    exact hp
theorem c_mAuditor {f x : Nat} (hf : f < 2 ^ 30) (hx : x < 2 ^ 31) (hp : P (some (.int (audI f x))) M) : Ev 88 d mX8_auditor none 0 [.int (nI f), .int (nI x)] [] M P := by
  unfold audI at hp
  by_cases h : x < f
  · rw [if_pos h] at hp
    refine ev_iload_n (i := 0) dX8_auditor_0 rfl rfl ?_
    refine ev_iload_n (i := 1) dX8_auditor_1 rfl rfl ?_
    refine ev_icmp_leN 9 dX8_auditor_2 (by decide) (by omega) (by omega) (fun b2 => by exfalso; omega) (fun b2 => ?_)
    refine ev_iconst (v := nI 4) dX8_auditor_5 rfl ?_
    refine ev_goto 10 dX8_auditor_6 (by decide) ?_
    refine ev_iload_n (i := 1) dX8_auditor_10 rfl rfl ?_
    refine ev_isub dX8_auditor_11 ?_
    refine ev_reti dX8_auditor_12 rfl rfl ?_
    exact hp
  · rw [if_neg h] at hp
    refine ev_iload_n (i := 0) dX8_auditor_0 rfl rfl ?_
    refine ev_iload_n (i := 1) dX8_auditor_1 rfl rfl ?_
    refine ev_icmp_leN 9 dX8_auditor_2 (by decide) (by omega) (by omega) (fun b2 => ?_) (fun b2 => by exfalso; omega)
    refine ev_iconst (v := nI 0) dX8_auditor_9 rfl ?_
    refine ev_iload_n (i := 1) dX8_auditor_10 rfl rfl ?_
    refine ev_isub dX8_auditor_11 ?_
    refine ev_reti dX8_auditor_12 rfl rfl ?_
    rw [show nI 0 - nI x = -nI x from Int32.zero_sub _]; exact hp
theorem al_f {Q : Nat → Prop} {k : Nat} (h : false = true ↔ ∀ i, i < k → Q i) : false = true ↔ ∀ i, i < k + 1 → Q i := ⟨fun z => (by cases z), fun z => h.mpr (fun i hi => z i (by omega))⟩
theorem al_n {Q : Nat → Prop} {k : Nat} (h : ¬ Q k) : false = true ↔ ∀ i, i < k + 1 → Q i := ⟨fun z => (by cases z), fun z => absurd (z k (by omega)) h⟩
theorem al_y {Q : Nat → Prop} {k : Nat} (h : true = true ↔ ∀ i, i < k → Q i) (hk : Q k) : true = true ↔ ∀ i, i < k + 1 → Q i := ⟨fun _ i hi => by
  by_cases z : i = k
  · rw [z]; exact hk
  · exact h.mp rfl i (by omega), fun _ => rfl⟩
theorem bl_f {b0 : Bool} {Q : Nat → Prop} {k : Nat} (h : false = true ↔ (b0 = true ∧ ∀ i, i < k → Q i)) : false = true ↔ (b0 = true ∧ ∀ i, i < k + 1 → Q i) := ⟨fun z => (by cases z), fun z => h.mpr ⟨z.1, fun i hi => z.2 i (by omega)⟩⟩
theorem bl_n {b0 : Bool} {Q : Nat → Prop} {k : Nat} (h : ¬ Q k) : false = true ↔ (b0 = true ∧ ∀ i, i < k + 1 → Q i) := ⟨fun z => (by cases z), fun z => absurd (z.2 k (by omega)) h⟩
theorem bl_y {b0 : Bool} {Q : Nat → Prop} {k : Nat} (h : true = true ↔ (b0 = true ∧ ∀ i, i < k → Q i)) (hk : Q k) : true = true ↔ (b0 = true ∧ ∀ i, i < k + 1 → Q i) := ⟨fun _ => ⟨(h.mp rfl).1, fun i hi => by
  by_cases z : i = k
  · rw [z]; exact hk
  · exact (h.mp rfl).2 i (by omega)⟩, fun _ => rfl⟩
def frH (h : Nat) : Nat := if h = 2 then 1 else 0
def toH (h : Nat) : Nat := if h = 1 then 2 else 3
theorem allB_i {p : Nat → Bool} {n : Nat} : allB p n = true ↔ ∀ i, i < n → p i = true := ⟨fun h i hi => by
  cases q : p i with
  | true => rfl
  | false => rw [allB_f hi q] at h; exact h, fun h => allB_t h⟩
def chB (h f x : Nat) : Bool := allB (fun i => decide (i < frH h) || decide (toH h < i) || decide (clkI i x ≤ clkI f x)) 4 && allB (fun i => decide (audI f i ≤ audI f x)) 4
theorem ar_b : ∀ h, h < 4 → ∀ f, f < 4 → ∀ x, x < 4 → frH h ≤ f → f ≤ toH h → arB h f x = chB h f x := by decide +kernel
theorem ar_all : ∀ h, h < 4 → ∀ f, f < 4 → ∀ x, x < 4 → frH h ≤ f → f ≤ toH h → ((arB h f x = true) ↔ ((∀ i, i < toH h + 1 → (frH h ≤ i → clkI i x ≤ clkI f x)) ∧ ∀ i, i < 4 → audI f i ≤ audI f x)) := by
  intro h hh f hf x hx h1 h2
  have hto : toH h ≤ 3 := by unfold toH; split <;> omega
  rw [ar_b h hh f hf x hx h1 h2]
  unfold chB
  rw [Bool.and_eq_true, allB_i, allB_i]
  constructor
  · rintro ⟨a1, a2⟩
    refine ⟨fun i hi h3 => ?_, fun i hi => of_decide_eq_true (a2 i hi)⟩
    have := a1 i (by omega)
    rw [decide_eq_false (by omega), decide_eq_false (by omega)] at this
    exact of_decide_eq_true this
  · rintro ⟨a1, a2⟩
    refine ⟨fun i hi => ?_, fun i hi => decide_eq_true (a2 i hi)⟩
    by_cases z1 : i < frH h
    · rw [decide_eq_true z1]; rfl
    · by_cases z2 : toH h < i
      · rw [decide_eq_true z2, Bool.or_true]; rfl
      · rw [decide_eq_true (a1 i (by omega) (by omega)), Bool.or_true]
theorem ar_lo : ∀ h, h < 4 → ∀ k, k < 4 * frH h → arB h (k / 4) (k % 4) = false := by decide +kernel
theorem ar_hi : ∀ h, h < 4 → ∀ k, k < 16 → 4 * (toH h + 1) ≤ k → arB h (k / 4) (k % 4) = false := by decide +kernel
theorem cN_0 {p : Nat → Bool} {n : Nat} : ∀ {m : Nat}, (∀ k, n ≤ k → k < n + m → p k = false) → cN p (n + m) = cN p n
  | 0, _ => rfl
  | m + 1, h => by rw [← Nat.add_assoc, ← cN_f (h _ (by omega) (by omega)), cN_0 (fun k h1 h2 => h k h1 (by omega))]
theorem f1N_0 {p : Nat → Bool} {v : Nat → Nat} {n : Nat} : ∀ {m : Nat}, (∀ k, n ≤ k → k < n + m → p k = false) → f1N p v (n + m) = f1N p v n
  | 0, _ => rfl
  | m + 1, h => by rw [← Nat.add_assoc, ← f1N_f (h _ (by omega) (by omega)), f1N_0 (fun k h1 h2 => h k h1 (by omega))]
theorem cf_0 {p : Nat → Bool} {v : Nat → Nat} : ∀ n, cN p n = 0 ↔ f1N p v n = none
  | 0 => ⟨fun _ => rfl, fun _ => rfl⟩
  | n + 1 => by
    have ih := cf_0 (p := p) (v := v) n
    cases h : p n with
    | true => rw [← cN_t h, ← f1N_t h]; exact ⟨fun z => by omega, fun z => by cases z⟩
    | false => rw [← cN_f h, ← f1N_f h]; exact ih
variable {s : cs}

theorem R_rests {x y : Int32} (h : kM M s) (ho : cOk s) (hp : ∀ M1, ag M M1 72 88 → kM M1 (s) → P (some (.int (a_rests s x y))) M1) : Ev 88 7 mX8_rests none 0 [.ref 72, .int x, .int y, .null, .null, .null, .null, .null, .null, .null, .null] [] M P := by
  refine m_thr dX8_rests_0 dX8_rests_1 dX8_rests_2 fwX8_60 h (fun M0 a0 h => ?_)
  replace hp : ∀ M1, ag M0 M1 72 88 → kM M1 (s) → P (some (.int (a_rests s x y))) M1 := fun M1 ha hk => hp M1 (ag_tr (ag_wd a0 : ag M M0 72 88) ha) hk
  clear a0
  obtain ⟨t, l, p, a, sl, v, sd⟩ := s
  obtain ⟨⟨e, x0⟩, hR⟩ := id h
  obtain ⟨h1, h2, h3, h11, h4, h5, h6, h7⟩ : arr M0 73 40 t.1 t.2 ∧ kML M0 l ∧ kG M0 79 p ∧ (∃ q, kG M0 80 q) ∧ kBk M0 a ∧ kKp M0 sl ∧ kMV M0 v ∧ kX M0 := id hR
  obtain ⟨o1, o2, o3, o4, o5, o6, o7⟩ : txOk t ∧ ltOk l ∧ pgOk p ∧ (∀ q ∈ a, pgOk q) ∧ a.length ≤ 14 ∧ (∀ i q, sl i = some q → pgOk q) ∧ ovOk v := ho
  have hO : kO M0 e t.1 l.1 a.length v.1 sd := x0
  have hl6 := o2.1
  have hv6 := o7.1
  unfold kO at x0
  unfold a_rests at hp
  obtain ⟨fb, xb, yb⟩ := h2.2.1
  cases hx : inR x l.1 with
  | true =>
    rw [if_pos hx] at hp
    obtain ⟨j0, hj, rfl⟩ := inR_of hx (by omega)
    have hcl : (nI j0).toNatClampNeg = j0 := n_cl (by omega)
    rw [hcl] at hp
    cases hy : inR y 2 with
    | true =>
      rw [if_pos hy] at hp
      obtain ⟨w, hw, rfl⟩ := inR_of hy (by decide)
      rw [n_cl (by omega)] at hp
      have hh := (o2.2 j0 hj).2.1
      obtain ⟨H, hH⟩ : ∃ H, H = l.2.2.1 j0 := ⟨_, rfl⟩
      have hyb := yb j0 hj
      rw [← hH] at hh hyb
      rw [show (t, l, p, a, sl, v, sd).2.1.2.2.1 j0 = H from hH.symm] at hp
      have hH4 : H < 4 := by omega
      have hfr : frH H ≤ 1 := by unfold frH; split <;> omega
      have hto : toH H ≤ 3 := by unfold toH; split <;> omega
      have hto2 : 2 ≤ toH H := by unfold toH; split <;> omega
      have l1 : ∀ (f x : Nat) (n0 fi : Value), f < 4 → x < 4 → ∀ (j k : Nat) (b : Bool), frH H ≤ k → k + j = toH H + 1 → (b = true ↔ ∀ i, i < k → (frH H ≤ i → clkI i x ≤ clkI f x)) → (∀ (b1 : Bool) (lx : Value), (b1 = true ↔ ∀ i, i < toH H + 1 → (frH H ≤ i → clkI i x ≤ clkI f x)) → Ev 88 7 mX8_rests none 135 [.ref 72, .int (nI j0), .int (nI w), .int (nI (frH H)), .int (nI (toH H)), n0, fi, .int (nI f), .int (nI x), .int (bI b1), lx] [] M0 P) → Ev 88 7 mX8_rests none 93 [.ref 72, .int (nI j0), .int (nI w), .int (nI (frH H)), .int (nI (toH H)), n0, fi, .int (nI f), .int (nI x), .int (bI b), .int (nI k)] [] M0 P := by
        intro f x n0 fi hf hx j
        induction j with
        | zero =>
          intro k b hk0 hk hb kk
          obtain rfl : k = toH H + 1 := by omega
          refine ev_iload (i := 10) dX8_rests_93 rfl ?_
          refine ev_iload (i := 4) dX8_rests_95 rfl ?_
          refine ev_icmp_gtN 135 dX8_rests_97 (by decide) (by omega) (by omega) (fun b97 => ?_) (fun b97 => by exfalso; omega)
          exact kk b _ hb
        | succ j ih =>
          intro k b hk0 hk hb kk
          cases b with
          | false =>
            refine ev_iload (i := 10) dX8_rests_93 rfl ?_
            refine ev_iload (i := 4) dX8_rests_95 rfl ?_
            refine ev_icmp_gtN 135 dX8_rests_97 (by decide) (by omega) (by omega) (fun b97 => by exfalso; omega) (fun b97 => ?_)
            refine ev_iload (i := 9) dX8_rests_100 rfl ?_
            refine ev_if_eqB 126 dX8_rests_102 (by decide) (fun b102 => ?_) (fun b102 => by cases b102)
            refine ev_iconst (v := nI 0) dX8_rests_126 rfl ?_
            refine ev_istore (i := 9) dX8_rests_127 (by decide) rfl ?_
            refine ev_incN dX8_rests_129 (by rfl) (by decide) rfl ?_
            refine ev_goto 93 dX8_rests_132 (by decide) ?_
            exact ih (k + 1) false (by omega) (by omega) (al_f hb) kk
          | true =>
            by_cases hq : clkI k x ≤ clkI f x
            · skip
              refine ev_iload (i := 10) dX8_rests_93 rfl ?_
              refine ev_iload (i := 4) dX8_rests_95 rfl ?_
              refine ev_icmp_gtN 135 dX8_rests_97 (by decide) (by omega) (by omega) (fun b97 => by exfalso; omega) (fun b97 => ?_)
              refine ev_iload (i := 9) dX8_rests_100 rfl ?_
              refine ev_if_eqB 126 dX8_rests_102 (by decide) (fun b102 => by cases b102) (fun b102 => ?_)
              refine ev_iload (i := 10) dX8_rests_105 rfl ?_
              refine ev_iload (i := 8) dX8_rests_107 rfl ?_
              refine ev_S2 (μ1 := mX8_clerk) dX8_rests_109 sX8_189 okX8_clerk (Nat.le_of_ble_eq_true rfl) (Nat.le_of_ble_eq_true rfl) ?_
              refine c_mClerk (by omega) (by omega) ?_
              refine ev_iload (i := 7) dX8_rests_112 rfl ?_
              refine ev_iload (i := 8) dX8_rests_114 rfl ?_
              refine ev_S2 (μ1 := mX8_clerk) dX8_rests_116 sX8_189 okX8_clerk (Nat.le_of_ble_eq_true rfl) (Nat.le_of_ble_eq_true rfl) ?_
              refine c_mClerk (by omega) (by omega) ?_
              refine ev_icmp_gt 126 dX8_rests_119 (by decide) (fun b119 => absurd b119 (Int32.not_lt.mpr hq)) (fun b119 => ?_)
              refine ev_iconst (v := nI 1) dX8_rests_122 rfl ?_
              refine ev_goto 127 dX8_rests_123 (by decide) ?_
              refine ev_istore (i := 9) dX8_rests_127 (by decide) rfl ?_
              refine ev_incN dX8_rests_129 (by rfl) (by decide) rfl ?_
              refine ev_goto 93 dX8_rests_132 (by decide) ?_
              exact ih (k + 1) true (by omega) (by omega) (al_y hb (fun _ => hq)) kk
            · skip
              refine ev_iload (i := 10) dX8_rests_93 rfl ?_
              refine ev_iload (i := 4) dX8_rests_95 rfl ?_
              refine ev_icmp_gtN 135 dX8_rests_97 (by decide) (by omega) (by omega) (fun b97 => by exfalso; omega) (fun b97 => ?_)
              refine ev_iload (i := 9) dX8_rests_100 rfl ?_
              refine ev_if_eqB 126 dX8_rests_102 (by decide) (fun b102 => by cases b102) (fun b102 => ?_)
              refine ev_iload (i := 10) dX8_rests_105 rfl ?_
              refine ev_iload (i := 8) dX8_rests_107 rfl ?_
              refine ev_S2 (μ1 := mX8_clerk) dX8_rests_109 sX8_189 okX8_clerk (Nat.le_of_ble_eq_true rfl) (Nat.le_of_ble_eq_true rfl) ?_
              refine c_mClerk (by omega) (by omega) ?_
              refine ev_iload (i := 7) dX8_rests_112 rfl ?_
              refine ev_iload (i := 8) dX8_rests_114 rfl ?_
              refine ev_S2 (μ1 := mX8_clerk) dX8_rests_116 sX8_189 okX8_clerk (Nat.le_of_ble_eq_true rfl) (Nat.le_of_ble_eq_true rfl) ?_
              refine c_mClerk (by omega) (by omega) ?_
              refine ev_icmp_gt 126 dX8_rests_119 (by decide) (fun b119 => ?_) (fun b119 => absurd (Int32.not_lt.mp b119) hq)
              refine ev_iconst (v := nI 0) dX8_rests_126 rfl ?_
              refine ev_istore (i := 9) dX8_rests_127 (by decide) rfl ?_
              refine ev_incN dX8_rests_129 (by rfl) (by decide) rfl ?_
              refine ev_goto 93 dX8_rests_132 (by decide) ?_
              exact ih (k + 1) false (by omega) (by omega) (al_n (fun z => hq (z hk0))) kk
      have l2 : ∀ (f x : Nat) (n0 fi : Value) (b0 : Bool), f < 4 → x < 4 → ∀ (j k : Nat) (b : Bool), k + j = 4 → (b = true ↔ (b0 = true ∧ ∀ i, i < k → audI f i ≤ audI f x)) → (∀ (b1 : Bool) (lx : Value), (b1 = true ↔ (b0 = true ∧ ∀ i, i < 4 → audI f i ≤ audI f x)) → Ev 88 7 mX8_rests none 179 [.ref 72, .int (nI j0), .int (nI w), .int (nI (frH H)), .int (nI (toH H)), n0, fi, .int (nI f), .int (nI x), .int (bI b1), lx] [] M0 P) → Ev 88 7 mX8_rests none 138 [.ref 72, .int (nI j0), .int (nI w), .int (nI (frH H)), .int (nI (toH H)), n0, fi, .int (nI f), .int (nI x), .int (bI b), .int (nI k)] [] M0 P := by
        intro f x n0 fi b0 hf hx j
        induction j with
        | zero =>
          intro k b hk hb kk
          obtain rfl : k = 4 := by omega
          refine ev_iload (i := 10) dX8_rests_138 rfl ?_
          refine ev_iconst (v := nI 4) dX8_rests_140 rfl ?_
          refine ev_icmp_geN 179 dX8_rests_141 (by decide) (by omega) (by omega) (fun b141 => ?_) (fun b141 => by exfalso; omega)
          exact kk b _ hb
        | succ j ih =>
          intro k b hk hb kk
          cases b with
          | false =>
            refine ev_iload (i := 10) dX8_rests_138 rfl ?_
            refine ev_iconst (v := nI 4) dX8_rests_140 rfl ?_
            refine ev_icmp_geN 179 dX8_rests_141 (by decide) (by omega) (by omega) (fun b141 => by exfalso; omega) (fun b141 => ?_)
            refine ev_iload (i := 9) dX8_rests_144 rfl ?_
            refine ev_if_eqB 170 dX8_rests_146 (by decide) (fun b146 => ?_) (fun b146 => by cases b146)
            refine ev_iconst (v := nI 0) dX8_rests_170 rfl ?_
            refine ev_istore (i := 9) dX8_rests_171 (by decide) rfl ?_
            refine ev_incN dX8_rests_173 (by rfl) (by decide) rfl ?_
            refine ev_goto 138 dX8_rests_176 (by decide) ?_
            exact ih (k + 1) false (by omega) (bl_f hb) kk
          | true =>
            by_cases hq : audI f k ≤ audI f x
            · skip
              refine ev_iload (i := 10) dX8_rests_138 rfl ?_
              refine ev_iconst (v := nI 4) dX8_rests_140 rfl ?_
              refine ev_icmp_geN 179 dX8_rests_141 (by decide) (by omega) (by omega) (fun b141 => by exfalso; omega) (fun b141 => ?_)
              refine ev_iload (i := 9) dX8_rests_144 rfl ?_
              refine ev_if_eqB 170 dX8_rests_146 (by decide) (fun b146 => by cases b146) (fun b146 => ?_)
              refine ev_iload (i := 7) dX8_rests_149 rfl ?_
              refine ev_iload (i := 10) dX8_rests_151 rfl ?_
              refine ev_S2 (μ1 := mX8_auditor) dX8_rests_153 sX8_192 okX8_auditor (Nat.le_of_ble_eq_true rfl) (Nat.le_of_ble_eq_true rfl) ?_
              refine c_mAuditor (by omega) (by omega) ?_
              refine ev_iload (i := 7) dX8_rests_156 rfl ?_
              refine ev_iload (i := 8) dX8_rests_158 rfl ?_
              refine ev_S2 (μ1 := mX8_auditor) dX8_rests_160 sX8_192 okX8_auditor (Nat.le_of_ble_eq_true rfl) (Nat.le_of_ble_eq_true rfl) ?_
              refine c_mAuditor (by omega) (by omega) ?_
              refine ev_icmp_gt 170 dX8_rests_163 (by decide) (fun b163 => absurd b163 (Int32.not_lt.mpr hq)) (fun b163 => ?_)
              refine ev_iconst (v := nI 1) dX8_rests_166 rfl ?_
              refine ev_goto 171 dX8_rests_167 (by decide) ?_
              refine ev_istore (i := 9) dX8_rests_171 (by decide) rfl ?_
              refine ev_incN dX8_rests_173 (by rfl) (by decide) rfl ?_
              refine ev_goto 138 dX8_rests_176 (by decide) ?_
              exact ih (k + 1) true (by omega) (bl_y hb hq) kk
            · skip
              refine ev_iload (i := 10) dX8_rests_138 rfl ?_
              refine ev_iconst (v := nI 4) dX8_rests_140 rfl ?_
              refine ev_icmp_geN 179 dX8_rests_141 (by decide) (by omega) (by omega) (fun b141 => by exfalso; omega) (fun b141 => ?_)
              refine ev_iload (i := 9) dX8_rests_144 rfl ?_
              refine ev_if_eqB 170 dX8_rests_146 (by decide) (fun b146 => by cases b146) (fun b146 => ?_)
              refine ev_iload (i := 7) dX8_rests_149 rfl ?_
              refine ev_iload (i := 10) dX8_rests_151 rfl ?_
              refine ev_S2 (μ1 := mX8_auditor) dX8_rests_153 sX8_192 okX8_auditor (Nat.le_of_ble_eq_true rfl) (Nat.le_of_ble_eq_true rfl) ?_
              refine c_mAuditor (by omega) (by omega) ?_
              refine ev_iload (i := 7) dX8_rests_156 rfl ?_
              refine ev_iload (i := 8) dX8_rests_158 rfl ?_
              refine ev_S2 (μ1 := mX8_auditor) dX8_rests_160 sX8_192 okX8_auditor (Nat.le_of_ble_eq_true rfl) (Nat.le_of_ble_eq_true rfl) ?_
              refine c_mAuditor (by omega) (by omega) ?_
              refine ev_icmp_gt 170 dX8_rests_163 (by decide) (fun b163 => ?_) (fun b163 => absurd (Int32.not_lt.mp b163) hq)
              refine ev_iconst (v := nI 0) dX8_rests_170 rfl ?_
              refine ev_istore (i := 9) dX8_rests_171 (by decide) rfl ?_
              refine ev_incN dX8_rests_173 (by rfl) (by decide) rfl ?_
              refine ev_goto 138 dX8_rests_176 (by decide) ?_
              exact ih (k + 1) false (by omega) (bl_n hq) kk
      obtain ⟨p0, hp0⟩ : ∃ p0 : Nat → Bool, p0 = fun k => arB H (k / 4) (k % 4) := ⟨_, rfl⟩
      obtain ⟨v0, hv0⟩ : ∃ v0 : Nat → Nat, v0 = fun k => 10 * (k / 4) + k % 4 := ⟨_, rfl⟩
      rw [← hp0, ← hv0] at hp
      have dl : ∀ f, frH H ≤ f → f ≤ toH H → (∀ (lx ly lz : Value), Ev 88 7 mX8_rests none 71 [.ref 72, .int (nI j0), .int (nI w), .int (nI (frH H)), .int (nI (toH H)), .int (nI (cN p0 (4 * (f + 1)))), .int (oI (f1N p0 v0 (4 * (f + 1)))), .int (nI (f + 1)), lx, ly, lz] [] M0 P) → ∀ (j x : Nat) (lx ly : Value), x + j = 4 → Ev 88 7 mX8_rests none 81 [.ref 72, .int (nI j0), .int (nI w), .int (nI (frH H)), .int (nI (toH H)), .int (nI (cN p0 (4 * f + x))), .int (oI (f1N p0 v0 (4 * f + x))), .int (nI f), .int (nI x), lx, ly] [] M0 P := by
        intro f hf1 hf2 kk j
        induction j with
        | zero =>
          intro x lx ly hx
          obtain rfl : x = 4 := by omega
          refine ev_iload (i := 8) dX8_rests_81 rfl ?_
          refine ev_iconst (v := nI 4) dX8_rests_83 rfl ?_
          refine ev_icmp_geN 225 dX8_rests_84 (by decide) (by omega) (by omega) (fun b84 => ?_) (fun b84 => by exfalso; omega)
          refine ev_incN dX8_rests_225 (by rfl) (by decide) rfl ?_
          refine ev_goto 71 dX8_rests_228 (by decide) ?_
          exact kk _ _ _
        | succ j ih =>
          intro x lx ly hx
          have hle := cN_le p0 (4 * f + x)
          have hcf := cf_0 (p := p0) (v := v0) (4 * f + x)
          have hpv : p0 (4 * f + x) = arB H f x := by rw [hp0]; show arB H ((4 * f + x) / 4) ((4 * f + x) % 4) = _; rw [show (4 * f + x) / 4 = f by omega, show (4 * f + x) % 4 = x by omega]
          have hvv : v0 (4 * f + x) = 10 * f + x := by rw [hv0]; show 10 * ((4 * f + x) / 4) + (4 * f + x) % 4 = _; rw [show (4 * f + x) / 4 = f by omega, show (4 * f + x) % 4 = x by omega]
          refine ev_iload (i := 8) dX8_rests_81 rfl ?_
          refine ev_iconst (v := nI 4) dX8_rests_83 rfl ?_
          refine ev_icmp_geN 225 dX8_rests_84 (by decide) (by omega) (by omega) (fun b84 => by exfalso; omega) (fun b84 => ?_)
          refine ev_iconst (v := nI 1) dX8_rests_87 rfl ?_
          refine ev_istore (i := 9) dX8_rests_88 (by decide) rfl ?_
          refine ev_iload_n (i := 3) dX8_rests_90 rfl rfl ?_
          refine ev_istore (i := 10) dX8_rests_91 (by decide) rfl ?_
          refine l1 f x _ _ (by omega) (by omega) (toH H + 1 - frH H) (frH H) true (Nat.le_refl _) (by omega) ⟨fun _ i hi hi2 => absurd hi (by omega), fun _ => rfl⟩ (fun b1 lx h1 => ?_)
          refine ev_iconst (v := nI 0) dX8_rests_135 rfl ?_
          refine ev_istore (i := 10) dX8_rests_136 (by decide) rfl ?_
          refine l2 f x _ _ b1 (by omega) (by omega) 4 0 b1 rfl ⟨fun z => ⟨z, fun i hi => absurd hi (Nat.not_lt_zero i)⟩, fun z => z.1⟩ (fun b2 ly h2 => ?_)
          have hb2 : b2 = p0 (4 * f + x) := by
            rw [Bool.eq_iff_iff, h2, h1, hpv]
            exact (ar_all H hH4 f (by omega) x (by omega) hf1 hf2).symm
          cases b2 with
          | false =>
            have r := ih (x + 1) (.int (nI 0)) (.int (nI 4)) (by omega)
            have r := fun lx ly => ih (x + 1) lx ly (by omega)
            rw [show 4 * f + (x + 1) = 4 * f + x + 1 by omega, ← cN_f hb2.symm, ← f1N_f hb2.symm] at r
            refine ev_iload (i := 9) dX8_rests_179 rfl ?_
            refine ev_if_eqB 200 dX8_rests_181 (by decide) (fun b181 => ?_) (fun b181 => by cases b181)
            refine ev_iload (i := 6) dX8_rests_200 rfl ?_
            refine ev_istore (i := 6) dX8_rests_202 (by decide) rfl ?_
            refine ev_iload (i := 5) dX8_rests_204 rfl ?_
            refine ev_iload (i := 9) dX8_rests_206 rfl ?_
            refine ev_if_eqB 215 dX8_rests_208 (by decide) (fun b208 => ?_) (fun b208 => by cases b208)
            refine ev_iconst (v := nI 0) dX8_rests_215 rfl ?_
            refine ev_iaddN dX8_rests_216 ?_
            refine ev_istore (i := 5) dX8_rests_217 (by decide) rfl ?_
            refine ev_incN dX8_rests_219 (by rfl) (by decide) rfl ?_
            refine ev_goto 81 dX8_rests_222 (by decide) ?_
            exact r _ _
          | true =>
            have r := fun lx ly => ih (x + 1) lx ly (by omega)
            rw [show 4 * f + (x + 1) = 4 * f + x + 1 by omega, ← cN_t hb2.symm, ← f1N_t hb2.symm, hvv] at r
            by_cases hn0 : cN p0 (4 * f + x) = 0
            · rw [hcf.mp hn0] at r
              refine ev_iload (i := 9) dX8_rests_179 rfl ?_
              refine ev_if_eqB 200 dX8_rests_181 (by decide) (fun b181 => by cases b181) (fun b181 => ?_)
              refine ev_iload (i := 5) dX8_rests_184 rfl ?_
              refine ev_if_neN 200 dX8_rests_186 (by decide) (by omega) (fun b186 => by exfalso; omega) (fun b186 => ?_)
              refine ev_bipush (v := nI 10) dX8_rests_189 rfl ?_
              refine ev_iload (i := 7) dX8_rests_191 rfl ?_
              refine ev_imulN dX8_rests_193 ?_
              refine ev_iload (i := 8) dX8_rests_194 rfl ?_
              refine ev_iaddN dX8_rests_196 ?_
              refine ev_goto 202 dX8_rests_197 (by decide) ?_
              refine ev_istore (i := 6) dX8_rests_202 (by decide) rfl ?_
              refine ev_iload (i := 5) dX8_rests_204 rfl ?_
              refine ev_iload (i := 9) dX8_rests_206 rfl ?_
              refine ev_if_eqB 215 dX8_rests_208 (by decide) (fun b208 => by cases b208) (fun b208 => ?_)
              refine ev_iconst (v := nI 1) dX8_rests_211 rfl ?_
              refine ev_goto 216 dX8_rests_212 (by decide) ?_
              refine ev_iaddN dX8_rests_216 ?_
              refine ev_istore (i := 5) dX8_rests_217 (by decide) rfl ?_
              refine ev_incN dX8_rests_219 (by rfl) (by decide) rfl ?_
              refine ev_goto 81 dX8_rests_222 (by decide) ?_
              exact r _ _
            · cases hs2 : f1N p0 v0 (4 * f + x) with
              | none => exact absurd (hcf.mpr hs2) hn0
              | some y =>
                rw [hs2] at r
                refine ev_iload (i := 9) dX8_rests_179 rfl ?_
                refine ev_if_eqB 200 dX8_rests_181 (by decide) (fun b181 => by cases b181) (fun b181 => ?_)
                refine ev_iload (i := 5) dX8_rests_184 rfl ?_
                refine ev_if_neN 200 dX8_rests_186 (by decide) (by omega) (fun b186 => ?_) (fun b186 => by exfalso; omega)
                refine ev_iload (i := 6) dX8_rests_200 rfl ?_
                refine ev_istore (i := 6) dX8_rests_202 (by decide) rfl ?_
                refine ev_iload (i := 5) dX8_rests_204 rfl ?_
                refine ev_iload (i := 9) dX8_rests_206 rfl ?_
                refine ev_if_eqB 215 dX8_rests_208 (by decide) (fun b208 => by cases b208) (fun b208 => ?_)
                refine ev_iconst (v := nI 1) dX8_rests_211 rfl ?_
                refine ev_goto 216 dX8_rests_212 (by decide) ?_
                refine ev_iaddN dX8_rests_216 ?_
                refine ev_istore (i := 5) dX8_rests_217 (by decide) rfl ?_
                refine ev_incN dX8_rests_219 (by rfl) (by decide) rfl ?_
                refine ev_goto 81 dX8_rests_222 (by decide) ?_
                exact r _ _
      have fl : ∀ (j f : Nat) (lx ly lz : Value), frH H ≤ f → f + j = toH H + 1 → Ev 88 7 mX8_rests none 71 [.ref 72, .int (nI j0), .int (nI w), .int (nI (frH H)), .int (nI (toH H)), .int (nI (cN p0 (4 * f))), .int (oI (f1N p0 v0 (4 * f))), .int (nI f), lx, ly, lz] [] M0 P := by
        intro j
        induction j with
        | zero =>
          intro f lx ly lz hf0 hf
          obtain rfl : f = toH H + 1 := by omega
          have e1 : cN p0 16 = cN p0 (4 * (toH H + 1)) := by
            have := cN_0 (p := p0) (n := 4 * (toH H + 1)) (m := 16 - 4 * (toH H + 1)) (fun k h1 h2 => by rw [hp0]; exact ar_hi H hH4 k (by omega) h1)
            rw [← this]; exact congrArg _ (by omega)
          have e2 : f1N p0 v0 16 = f1N p0 v0 (4 * (toH H + 1)) := by
            have := f1N_0 (p := p0) (v := v0) (n := 4 * (toH H + 1)) (m := 16 - 4 * (toH H + 1)) (fun k h1 h2 => by rw [hp0]; exact ar_hi H hH4 k (by omega) h1)
            rw [← this]; exact congrArg _ (by omega)
          rw [← e1, ← e2]
          by_cases hw0 : w = 0
          · rw [if_pos hw0] at hp
            refine ev_iload (i := 7) dX8_rests_71 rfl ?_
            refine ev_iload (i := 4) dX8_rests_73 rfl ?_
            refine ev_icmp_gtN 231 dX8_rests_75 (by decide) (by omega) (by omega) (fun b75 => ?_) (fun b75 => by exfalso; omega)
            refine ev_iload_n (i := 2) dX8_rests_231 rfl rfl ?_
            refine ev_if_neN 240 dX8_rests_232 (by decide) (by omega) (fun b232 => by exfalso; omega) (fun b232 => ?_)
            refine ev_iload (i := 5) dX8_rests_235 rfl ?_
            refine ev_goto 242 dX8_rests_237 (by decide) ?_
            refine ev_reti dX8_rests_242 rfl rfl ?_
            exact hp M0 (ag_rf M0 _ _) h
          · rw [if_neg hw0] at hp
            refine ev_iload (i := 7) dX8_rests_71 rfl ?_
            refine ev_iload (i := 4) dX8_rests_73 rfl ?_
            refine ev_icmp_gtN 231 dX8_rests_75 (by decide) (by omega) (by omega) (fun b75 => ?_) (fun b75 => by exfalso; omega)
            refine ev_iload_n (i := 2) dX8_rests_231 rfl rfl ?_
            refine ev_if_neN 240 dX8_rests_232 (by decide) (by omega) (fun b232 => ?_) (fun b232 => by exfalso; omega)
            refine ev_iload (i := 6) dX8_rests_240 rfl ?_
            refine ev_reti dX8_rests_242 rfl rfl ?_
            exact hp M0 (ag_rf M0 _ _) h
        | succ j ih =>
          intro f lx ly lz hf0 hf
          refine ev_iload (i := 7) dX8_rests_71 rfl ?_
          refine ev_iload (i := 4) dX8_rests_73 rfl ?_
          refine ev_icmp_gtN 231 dX8_rests_75 (by decide) (by omega) (by omega) (fun b75 => by exfalso; omega) (fun b75 => ?_)
          refine ev_iconst (v := nI 0) dX8_rests_78 rfl ?_
          refine ev_istore (i := 8) dX8_rests_79 (by decide) rfl ?_
          exact dl f hf0 (by omega) (fun lx ly lz => ih (f + 1) lx ly lz (by omega) (by omega)) 4 0 _ _ rfl
      have st := fl (toH H + 1 - frH H) (frH H) .null .null .null (Nat.le_refl _) (by omega)
      have e1 : cN p0 (4 * frH H) = 0 := by
        have := cN_0 (p := p0) (n := 0) (m := 4 * frH H) (fun k h1 h2 => by rw [hp0]; exact ar_lo H hH4 k (by omega))
        rw [Nat.zero_add] at this; exact this
      have e2 : f1N p0 v0 (4 * frH H) = none := (cf_0 (p := p0) (v := v0) _).mp e1
      rw [e1, e2] at st
      rcases (show H = 1 ∨ H = 2 ∨ (H ≠ 1 ∧ H ≠ 2) by omega) with q | q | q
      · have f1 : frH H = 0 := by rw [q]; rfl
        have f2 : toH H = 2 := by rw [q]; rfl
        rw [f1, f2] at st
        refine ev_aload_n (i := 0) dX8_rests_5 rfl rfl ?_
        refine ev_iload_n (i := 1) dX8_rests_6 rfl rfl ?_
        refine ev_V1 (μ1 := mX8_noLetter) dX8_rests_7 sX8_113 okX8_noLetter (by first | omega | decide) (by first | assumption | (simp (disch := omega) only [mu_s, mu_n]; first | assumption | rfl)) (Nat.le_of_ble_eq_true rfl) (Nat.le_of_ble_eq_true rfl) ?_
        refine c_noLetter hO hl6 ?_
        refine ev_top (i_op (congrArg bI ((congrArg Bool.not hx).trans rfl : (!inR (nI j0) l.1) = false))) ?_
        refine ev_if_eqB 15 dX8_rests_10 (by decide) (fun b10 => ?_) (fun b10 => by cases b10)
        refine ev_iload_n (i := 2) dX8_rests_15 rfl rfl ?_
        refine ev_i2l dX8_rests_16 rfl ?_
        refine ev_lconst dX8_rests_17 rfl ?_
        refine ev_lconst dX8_rests_18 rfl ?_
        refine ev_S3 (μ1 := mX8_in) dX8_rests_19 sX8_67 okX8_in (Nat.le_of_ble_eq_true rfl) (Nat.le_of_ble_eq_true rfl) ?_
        refine c_in ?_
        refine ev_top (i_op (congrArg bI ((in_r (n := 2) rfl).trans hy))) ?_
        refine ev_if_neB 28 dX8_rests_22 (by decide) (fun b22 => ?_) (fun b22 => by cases b22)
        refine ev_aload_n (i := 0) dX8_rests_28 rfl rfl ?_
        refine ev_getfield dX8_rests_29 fX8_16 (by first | omega | decide) (by first | assumption | (simp (disch := omega) only [mu_s, mu_n]; first | assumption | rfl)) (by rfl) ?_
        refine ev_iload_n (i := 1) dX8_rests_32 rfl rfl ?_
        refine ev_ialoadN dX8_rests_33 (by first | omega | decide) (by first | assumption | (simp (disch := omega) only [mu_s, mu_n]; first | assumption | rfl)) (by omega) (by decide) ?_
        refine ev_top (i_op hyb) ?_
        refine ev_iconst (v := nI 2) dX8_rests_34 rfl ?_
        refine ev_icmp_neN 42 dX8_rests_35 (by decide) (by omega) (by omega) (fun b35 => ?_) (fun b35 => by exfalso; omega)
        refine ev_iconst (v := nI 0) dX8_rests_42 rfl ?_
        refine ev_istore_n (i := 3) dX8_rests_43 rfl (by decide) rfl ?_
        refine ev_aload_n (i := 0) dX8_rests_44 rfl rfl ?_
        refine ev_getfield dX8_rests_45 fX8_16 (by first | omega | decide) (by first | assumption | (simp (disch := omega) only [mu_s, mu_n]; first | assumption | rfl)) (by rfl) ?_
        refine ev_iload_n (i := 1) dX8_rests_48 rfl rfl ?_
        refine ev_ialoadN dX8_rests_49 (by first | omega | decide) (by first | assumption | (simp (disch := omega) only [mu_s, mu_n]; first | assumption | rfl)) (by omega) (by decide) ?_
        refine ev_top (i_op hyb) ?_
        refine ev_iconst (v := nI 1) dX8_rests_50 rfl ?_
        refine ev_icmp_neN 58 dX8_rests_51 (by decide) (by omega) (by omega) (fun b51 => by exfalso; omega) (fun b51 => ?_)
        refine ev_iconst (v := nI 2) dX8_rests_54 rfl ?_
        refine ev_goto 59 dX8_rests_55 (by decide) ?_
        refine ev_istore (i := 4) dX8_rests_59 (by decide) rfl ?_
        refine ev_iconst (v := nI 0) dX8_rests_61 rfl ?_
        refine ev_istore (i := 5) dX8_rests_62 (by decide) rfl ?_
        refine ev_bipush (v := (-9)) dX8_rests_64 rfl ?_
        refine ev_istore (i := 6) dX8_rests_66 (by decide) rfl ?_
        refine ev_iload_n (i := 3) dX8_rests_68 rfl rfl ?_
        refine ev_istore (i := 7) dX8_rests_69 (by decide) rfl ?_
        exact st
      · have f1 : frH H = 1 := by rw [q]; rfl
        have f2 : toH H = 3 := by rw [q]; rfl
        rw [f1, f2] at st
        refine ev_aload_n (i := 0) dX8_rests_5 rfl rfl ?_
        refine ev_iload_n (i := 1) dX8_rests_6 rfl rfl ?_
        refine ev_V1 (μ1 := mX8_noLetter) dX8_rests_7 sX8_113 okX8_noLetter (by first | omega | decide) (by first | assumption | (simp (disch := omega) only [mu_s, mu_n]; first | assumption | rfl)) (Nat.le_of_ble_eq_true rfl) (Nat.le_of_ble_eq_true rfl) ?_
        refine c_noLetter hO hl6 ?_
        refine ev_top (i_op (congrArg bI ((congrArg Bool.not hx).trans rfl : (!inR (nI j0) l.1) = false))) ?_
        refine ev_if_eqB 15 dX8_rests_10 (by decide) (fun b10 => ?_) (fun b10 => by cases b10)
        refine ev_iload_n (i := 2) dX8_rests_15 rfl rfl ?_
        refine ev_i2l dX8_rests_16 rfl ?_
        refine ev_lconst dX8_rests_17 rfl ?_
        refine ev_lconst dX8_rests_18 rfl ?_
        refine ev_S3 (μ1 := mX8_in) dX8_rests_19 sX8_67 okX8_in (Nat.le_of_ble_eq_true rfl) (Nat.le_of_ble_eq_true rfl) ?_
        refine c_in ?_
        refine ev_top (i_op (congrArg bI ((in_r (n := 2) rfl).trans hy))) ?_
        refine ev_if_neB 28 dX8_rests_22 (by decide) (fun b22 => ?_) (fun b22 => by cases b22)
        refine ev_aload_n (i := 0) dX8_rests_28 rfl rfl ?_
        refine ev_getfield dX8_rests_29 fX8_16 (by first | omega | decide) (by first | assumption | (simp (disch := omega) only [mu_s, mu_n]; first | assumption | rfl)) (by rfl) ?_
        refine ev_iload_n (i := 1) dX8_rests_32 rfl rfl ?_
        refine ev_ialoadN dX8_rests_33 (by first | omega | decide) (by first | assumption | (simp (disch := omega) only [mu_s, mu_n]; first | assumption | rfl)) (by omega) (by decide) ?_
        refine ev_top (i_op hyb) ?_
        refine ev_iconst (v := nI 2) dX8_rests_34 rfl ?_
        refine ev_icmp_neN 42 dX8_rests_35 (by decide) (by omega) (by omega) (fun b35 => by exfalso; omega) (fun b35 => ?_)
        refine ev_iconst (v := nI 1) dX8_rests_38 rfl ?_
        refine ev_goto 43 dX8_rests_39 (by decide) ?_
        refine ev_istore_n (i := 3) dX8_rests_43 rfl (by decide) rfl ?_
        refine ev_aload_n (i := 0) dX8_rests_44 rfl rfl ?_
        refine ev_getfield dX8_rests_45 fX8_16 (by first | omega | decide) (by first | assumption | (simp (disch := omega) only [mu_s, mu_n]; first | assumption | rfl)) (by rfl) ?_
        refine ev_iload_n (i := 1) dX8_rests_48 rfl rfl ?_
        refine ev_ialoadN dX8_rests_49 (by first | omega | decide) (by first | assumption | (simp (disch := omega) only [mu_s, mu_n]; first | assumption | rfl)) (by omega) (by decide) ?_
        refine ev_top (i_op hyb) ?_
        refine ev_iconst (v := nI 1) dX8_rests_50 rfl ?_
        refine ev_icmp_neN 58 dX8_rests_51 (by decide) (by omega) (by omega) (fun b51 => ?_) (fun b51 => by exfalso; omega)
        refine ev_iconst (v := nI 3) dX8_rests_58 rfl ?_
        refine ev_istore (i := 4) dX8_rests_59 (by decide) rfl ?_
        refine ev_iconst (v := nI 0) dX8_rests_61 rfl ?_
        refine ev_istore (i := 5) dX8_rests_62 (by decide) rfl ?_
        refine ev_bipush (v := (-9)) dX8_rests_64 rfl ?_
        refine ev_istore (i := 6) dX8_rests_66 (by decide) rfl ?_
        refine ev_iload_n (i := 3) dX8_rests_68 rfl rfl ?_
        refine ev_istore (i := 7) dX8_rests_69 (by decide) rfl ?_
        exact st
      · have f1 : frH H = 0 := by unfold frH; rw [if_neg q.2]
        have f2 : toH H = 3 := by unfold toH; rw [if_neg q.1]
        rw [f1, f2] at st
        refine ev_aload_n (i := 0) dX8_rests_5 rfl rfl ?_
        refine ev_iload_n (i := 1) dX8_rests_6 rfl rfl ?_
        refine ev_V1 (μ1 := mX8_noLetter) dX8_rests_7 sX8_113 okX8_noLetter (by first | omega | decide) (by first | assumption | (simp (disch := omega) only [mu_s, mu_n]; first | assumption | rfl)) (Nat.le_of_ble_eq_true rfl) (Nat.le_of_ble_eq_true rfl) ?_
        refine c_noLetter hO hl6 ?_
        refine ev_top (i_op (congrArg bI ((congrArg Bool.not hx).trans rfl : (!inR (nI j0) l.1) = false))) ?_
        refine ev_if_eqB 15 dX8_rests_10 (by decide) (fun b10 => ?_) (fun b10 => by cases b10)
        refine ev_iload_n (i := 2) dX8_rests_15 rfl rfl ?_
        refine ev_i2l dX8_rests_16 rfl ?_
        refine ev_lconst dX8_rests_17 rfl ?_
        refine ev_lconst dX8_rests_18 rfl ?_
        refine ev_S3 (μ1 := mX8_in) dX8_rests_19 sX8_67 okX8_in (Nat.le_of_ble_eq_true rfl) (Nat.le_of_ble_eq_true rfl) ?_
        refine c_in ?_
        refine ev_top (i_op (congrArg bI ((in_r (n := 2) rfl).trans hy))) ?_
        refine ev_if_neB 28 dX8_rests_22 (by decide) (fun b22 => ?_) (fun b22 => by cases b22)
        refine ev_aload_n (i := 0) dX8_rests_28 rfl rfl ?_
        refine ev_getfield dX8_rests_29 fX8_16 (by first | omega | decide) (by first | assumption | (simp (disch := omega) only [mu_s, mu_n]; first | assumption | rfl)) (by rfl) ?_
        refine ev_iload_n (i := 1) dX8_rests_32 rfl rfl ?_
        refine ev_ialoadN dX8_rests_33 (by first | omega | decide) (by first | assumption | (simp (disch := omega) only [mu_s, mu_n]; first | assumption | rfl)) (by omega) (by decide) ?_
        refine ev_top (i_op hyb) ?_
        refine ev_iconst (v := nI 2) dX8_rests_34 rfl ?_
        refine ev_icmp_neN 42 dX8_rests_35 (by decide) (by omega) (by omega) (fun b35 => ?_) (fun b35 => by exfalso; omega)
        refine ev_iconst (v := nI 0) dX8_rests_42 rfl ?_
        refine ev_istore_n (i := 3) dX8_rests_43 rfl (by decide) rfl ?_
        refine ev_aload_n (i := 0) dX8_rests_44 rfl rfl ?_
        refine ev_getfield dX8_rests_45 fX8_16 (by first | omega | decide) (by first | assumption | (simp (disch := omega) only [mu_s, mu_n]; first | assumption | rfl)) (by rfl) ?_
        refine ev_iload_n (i := 1) dX8_rests_48 rfl rfl ?_
        refine ev_ialoadN dX8_rests_49 (by first | omega | decide) (by first | assumption | (simp (disch := omega) only [mu_s, mu_n]; first | assumption | rfl)) (by omega) (by decide) ?_
        refine ev_top (i_op hyb) ?_
        refine ev_iconst (v := nI 1) dX8_rests_50 rfl ?_
        refine ev_icmp_neN 58 dX8_rests_51 (by decide) (by omega) (by omega) (fun b51 => ?_) (fun b51 => by exfalso; omega)
        refine ev_iconst (v := nI 3) dX8_rests_58 rfl ?_
        refine ev_istore (i := 4) dX8_rests_59 (by decide) rfl ?_
        refine ev_iconst (v := nI 0) dX8_rests_61 rfl ?_
        refine ev_istore (i := 5) dX8_rests_62 (by decide) rfl ?_
        refine ev_bipush (v := (-9)) dX8_rests_64 rfl ?_
        refine ev_istore (i := 6) dX8_rests_66 (by decide) rfl ?_
        refine ev_iload_n (i := 3) dX8_rests_68 rfl rfl ?_
        refine ev_istore (i := 7) dX8_rests_69 (by decide) rfl ?_
        exact st
    | false =>
      rw [hy, if_neg (by decide)] at hp
      refine ev_aload_n (i := 0) dX8_rests_5 rfl rfl ?_
      refine ev_iload_n (i := 1) dX8_rests_6 rfl rfl ?_
      refine ev_V1 (μ1 := mX8_noLetter) dX8_rests_7 sX8_113 okX8_noLetter (by first | omega | decide) (by first | assumption | (simp (disch := omega) only [mu_s, mu_n]; first | assumption | rfl)) (Nat.le_of_ble_eq_true rfl) (Nat.le_of_ble_eq_true rfl) ?_
      refine c_noLetter hO hl6 ?_
      refine ev_top (i_op (congrArg bI ((congrArg Bool.not hx).trans rfl : (!inR (nI j0) l.1) = false))) ?_
      refine ev_if_eqB 15 dX8_rests_10 (by decide) (fun b10 => ?_) (fun b10 => by cases b10)
      refine ev_iload_n (i := 2) dX8_rests_15 rfl rfl ?_
      refine ev_i2l dX8_rests_16 rfl ?_
      refine ev_lconst dX8_rests_17 rfl ?_
      refine ev_lconst dX8_rests_18 rfl ?_
      refine ev_S3 (μ1 := mX8_in) dX8_rests_19 sX8_67 okX8_in (Nat.le_of_ble_eq_true rfl) (Nat.le_of_ble_eq_true rfl) ?_
      refine c_in ?_
      refine ev_top (i_op (congrArg bI ((in_r (n := 2) rfl).trans hy))) ?_
      refine ev_if_neB 28 dX8_rests_22 (by decide) (fun b22 => by cases b22) (fun b22 => ?_)
      refine ev_bipush (v := (-2)) dX8_rests_25 rfl ?_
      refine ev_reti dX8_rests_27 rfl rfl ?_
      exact hp M0 (ag_rf M0 _ _) h
  | false =>
    rw [hx, if_neg (by decide)] at hp
    refine ev_aload_n (i := 0) dX8_rests_5 rfl rfl ?_
    refine ev_iload_n (i := 1) dX8_rests_6 rfl rfl ?_
    refine ev_V1 (μ1 := mX8_noLetter) dX8_rests_7 sX8_113 okX8_noLetter (by first | omega | decide) (by first | assumption | (simp (disch := omega) only [mu_s, mu_n]; first | assumption | rfl)) (Nat.le_of_ble_eq_true rfl) (Nat.le_of_ble_eq_true rfl) ?_
    refine c_noLetter hO hl6 ?_
    refine ev_top (i_op (congrArg bI ((congrArg Bool.not hx).trans rfl : (!inR x l.1) = true))) ?_
    refine ev_if_eqB 15 dX8_rests_10 (by decide) (fun b10 => by cases b10) (fun b10 => ?_)
    refine ev_iconst (v := (-1)) dX8_rests_13 rfl ?_
    refine ev_reti dX8_rests_14 rfl rfl ?_
    exact hp M0 (ag_rf M0 _ _) h
end MDW
