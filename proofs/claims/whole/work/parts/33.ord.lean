/-! ===== orders: the enumeration of all, counted by prefixes and by suffixes ===== -/
def catN {α : Type} (f : Nat → List α) : Nat → Nat → List α
  | 0, _ => []
  | m + 1, c => f c ++ catN f m (c + 1)
/-- all orders behind a set of letters, least first -/
def pmN (n : Nat) : Nat → Nat → List (List Nat)
  | 0, _ => [[]]
  | j + 1, pr => catN (fun l => if pr.testBit l = true then [] else (pmN n j (pr ||| 2 ^ l)).map (fun r => l :: r)) n 0
def okS (v : ov) (n : Nat) : Nat → List Nat → Bool
  | _, [] => true
  | pr, l :: r => cfB v n pr l && okS v n (pr ||| 2 ^ l) r
def fcN (v : ov) (n j pr : Nat) : Nat := (pmN n j pr).countP (okS v n pr)
theorem cat_cnt {α : Type} (p : α → Bool) (f : Nat → List α) : ∀ m c, (catN f m c).countP p = sN (fun i => (f (c + i)).countP p) m
  | 0, _ => rfl
  | m + 1, c => by
    unfold catN
    rw [List.countP_append, cat_cnt p f m (c + 1)]
    have key : ∀ (g : Nat → Nat) (m : Nat), g 0 + sN (fun i => g (i + 1)) m = sN g (m + 1) := by
      intro g m
      induction m with
      | zero => show g 0 + 0 = 0 + g 0; omega
      | succ m ih =>
        show g 0 + (sN (fun i => g (i + 1)) m + g (m + 1)) = sN g (m + 1) + g (m + 1)
        omega
    rw [← key (fun i => (f (c + i)).countP p) m]
    show _ + sN (fun i => (f (c + 1 + i)).countP p) m = (f (c + 0)).countP p + sN (fun i => (f (c + (i + 1))).countP p) m
    exact congrArg (fun z => (f c).countP p + z) (sN_cong (fun i _ => by rw [show c + 1 + i = c + (i + 1) by omega]))
theorem fc_0 (v : ov) (n pr : Nat) : fcN v n 0 pr = 1 := rfl
theorem cf_n {v : ov} {n pr l : Nat} (h : cfB v n pr l = true) : pr.testBit l = false := by
  unfold cfB at h
  cases q : pr.testBit l with
  | false => rfl
  | true => rw [q] at h; cases h
theorem ok_c (v : ov) (n pr l : Nat) (L : List (List Nat)) : (L.map (fun r => l :: r)).countP (okS v n pr) = if cfB v n pr l = true then L.countP (okS v n (pr ||| 2 ^ l)) else 0 := by
  rw [List.countP_map]
  by_cases h : cfB v n pr l = true
  · rw [if_pos h]
    congr 1
    funext r
    show (cfB v n pr l && okS v n (pr ||| 2 ^ l) r) = _
    rw [h, Bool.true_and]
  · rw [if_neg h, List.countP_eq_zero]
    intro r _
    show ¬ (cfB v n pr l && okS v n (pr ||| 2 ^ l) r) = true
    rw [Bool.and_eq_true]
    exact fun z => h z.1
theorem fc_s (v : ov) (n j pr : Nat) : fcN v n (j + 1) pr = sN (fun l => if cfB v n pr l = true then fcN v n j (pr ||| 2 ^ l) else 0) n := by
  show (catN _ n 0).countP _ = _
  rw [cat_cnt]
  refine sN_cong (fun l _ => ?_)
  rw [Nat.zero_add]
  by_cases h : pr.testBit l = true
  · rw [if_pos h, if_neg (fun z => by rw [cf_n z] at h; cases h)]; rfl
  · rw [if_neg h, ok_c]; rfl
/-- the table, at its place -/
def GN (v : ov) (n s : Nat) : Nat := wtN v n (s + 1) s
theorem wt_G {v : ov} {n s : Nat} : ∀ {k}, s < k → wtN v n k s = GN v n s
  | 0, h => by omega
  | k + 1, h => by
    by_cases z : s = k
    · rw [z]; rfl
    · show (if s = k then _ else wtN v n k s) = _
      rw [if_neg z]
      exact wt_G (by omega)
theorem andn_lt {s l : Nat} (h : s.testBit l = true) : andn s (2 ^ l) < s := by
  rcases Nat.lt_or_ge (andn s (2 ^ l)) s with z | z
  · exact z
  · have e : andn s (2 ^ l) = s := Nat.le_antisymm (andn_le _ _) z
    have : (andn s (2 ^ l)).testBit l = false := by rw [andn_tb, Nat.testBit_two_pow, decide_eq_true rfl]; simp
    rw [e, h] at this
    cases this
theorem G_s {v : ov} {n s : Nat} (h0 : s ≠ 0) : GN v n s = sN (fun l => if s.testBit l = true ∧ cfB v n (andn s (2 ^ l)) l = true then GN v n (andn s (2 ^ l)) else 0) n := by
  show (if s = s then _ else _) = _
  rw [if_pos rfl, if_neg h0]
  refine sN_cong (fun l _ => ?_)
  by_cases h : s.testBit l = true ∧ cfB v n (andn s (2 ^ l)) l = true
  · rw [if_pos h, if_pos h, wt_G (andn_lt h.1)]
  · rw [if_neg h, if_neg h]
theorem G_0 (v : ov) (n : Nat) : GN v n 0 = 1 := rfl
theorem sN_spl (g : Nat → Nat) (a : Nat) : ∀ b, sN g (a + b) = sN g a + sN (fun i => g (a + i)) b
  | 0 => rfl
  | b + 1 => by
    show sN g (a + b) + g (a + b) = sN g a + (sN (fun i => g (a + i)) b + g (a + b))
    rw [sN_spl g a b]; omega
theorem xor_lo {l n i : Nat} (hl : l < n) (hi : i < 2 ^ n) : i ^^^ 2 ^ l < 2 ^ n := Nat.xor_lt_two_pow hi (Nat.pow_lt_pow_right (by decide) hl)
theorem add_x {n i : Nat} (hi : i < 2 ^ n) : 2 ^ n + i = i ^^^ 2 ^ n := by
  apply Nat.eq_of_testBit_eq
  intro k
  rw [Nat.testBit_xor, Nat.testBit_two_pow]
  rcases Nat.lt_trichotomy k n with z | z | z
  · rw [Nat.testBit_two_pow_add_gt z, decide_eq_false (by omega)]; simp
  · subst z
    rw [Nat.testBit_two_pow_add_eq, decide_eq_true rfl, Nat.testBit_lt_two_pow hi]; rfl
  · have h1 : 2 ^ n + i < 2 ^ k := by
      have : 2 ^ (n + 1) ≤ 2 ^ k := pw_le z
      rw [Nat.pow_succ] at this
      omega
    rw [Nat.testBit_lt_two_pow h1, Nat.testBit_lt_two_pow (show i < 2 ^ k by omega), decide_eq_false (by omega)]; rfl
theorem sN_x (g : Nat → Nat) {l : Nat} : ∀ {n : Nat}, l < n → sN (fun S => g (S ^^^ 2 ^ l)) (2 ^ n) = sN g (2 ^ n)
  | 0, h => by omega
  | n + 1, h => by
    rw [show 2 ^ (n + 1) = 2 ^ n + 2 ^ n by rw [Nat.pow_succ]; omega, sN_spl, sN_spl]
    by_cases z : l = n
    · subst z
      have e1 : sN (fun S => g (S ^^^ 2 ^ l)) (2 ^ l) = sN (fun i => g (2 ^ l + i)) (2 ^ l) := sN_cong (fun i hi => by rw [add_x hi])
      have e2 : sN (fun i => g ((2 ^ l + i) ^^^ 2 ^ l)) (2 ^ l) = sN g (2 ^ l) := sN_cong (fun i hi => by rw [add_x hi, Nat.xor_assoc, Nat.xor_self, Nat.xor_zero])
      rw [e1, e2]; omega
    · have e2 : sN (fun i => g ((2 ^ n + i) ^^^ 2 ^ l)) (2 ^ n) = sN (fun i => g (2 ^ n + i)) (2 ^ n) := by
        rw [← sN_x (fun i => g (2 ^ n + i)) (show l < n by omega)]
        refine sN_cong (fun i hi => ?_)
        rw [add_x hi, add_x (xor_lo (show l < n by omega) hi), Nat.xor_assoc, Nat.xor_comm (2 ^ n), ← Nat.xor_assoc]
      rw [sN_x g (show l < n by omega), e2]
theorem or_x {S l : Nat} (h : S.testBit l = false) : S ||| 2 ^ l = S ^^^ 2 ^ l := by
  apply Nat.eq_of_testBit_eq
  intro k
  rw [Nat.testBit_or, Nat.testBit_xor, Nat.testBit_two_pow]
  by_cases z : l = k
  · subst z; rw [h]; simp
  · rw [decide_eq_false z]; simp
theorem an_x {S l : Nat} (h : S.testBit l = true) : andn S (2 ^ l) = S ^^^ 2 ^ l := by
  apply Nat.eq_of_testBit_eq
  intro k
  rw [andn_tb, Nat.testBit_xor, Nat.testBit_two_pow]
  by_cases z : l = k
  · subst z; rw [h]; simp
  · rw [decide_eq_false z]; simp
theorem x_tb (S l : Nat) : (S ^^^ 2 ^ l).testBit l = !S.testBit l := by
  rw [Nat.testBit_xor, Nat.testBit_two_pow, decide_eq_true rfl]; simp
theorem cnt_x : ∀ l, l < 6 → ∀ S, S < 64 → S.testBit l = false → cnt (S ^^^ 2 ^ l) = cnt S + 1 := by decide +kernel
theorem cnt_fu : ∀ n, n < 7 → ∀ S, S < 2 ^ n → cnt S = n → S = 2 ^ n - 1 := by decide +kernel
theorem cnt_fl : ∀ n, n < 7 → cnt (2 ^ n - 1) = n := by decide +kernel
def TN (v : ov) (n m : Nat) : Nat := sN (fun S => if cnt S = m then GN v n S * fcN v n (n - m) S else 0) (2 ^ n)
theorem T_s {v : ov} {n m : Nat} (h6 : n ≤ 6) (hm : m < n) : TN v n m = TN v n (m + 1) := by
  have h64 : 2 ^ n ≤ 64 := pw_le (b := 6) h6
  have e1 : TN v n m = sN (fun S => sN (fun l => if cnt S = m ∧ cfB v n S l = true then GN v n S * fcN v n (n - (m + 1)) (S ||| 2 ^ l) else 0) n) (2 ^ n) := by
    refine sN_cong (fun S _ => ?_)
    rw [show n - m = n - (m + 1) + 1 by omega, fc_s]
    by_cases h : cnt S = m
    · rw [if_pos h, ← sN_mul]
      refine sN_cong (fun l _ => ?_)
      by_cases h2 : cfB v n S l = true
      · rw [if_pos h2, if_pos ⟨h, h2⟩]
      · rw [if_neg h2, if_neg (fun z => h2 z.2), Nat.mul_zero]
    · rw [if_neg h]
      exact ((sN_cong (fun l _ => if_neg (fun z => h z.1))).trans (sN_00 n)).symm
  have e2 : TN v n (m + 1) = sN (fun S => sN (fun l => if cnt S = m + 1 ∧ S.testBit l = true ∧ cfB v n (andn S (2 ^ l)) l = true then GN v n (andn S (2 ^ l)) * fcN v n (n - (m + 1)) S else 0) n) (2 ^ n) := by
    refine sN_cong (fun S _ => ?_)
    by_cases h : cnt S = m + 1
    · have h0 : S ≠ 0 := fun z => by rw [z, cnt_z] at h; omega
      rw [if_pos h, G_s h0, Nat.mul_comm, ← sN_mul]
      refine sN_cong (fun l _ => ?_)
      by_cases h2 : S.testBit l = true ∧ cfB v n (andn S (2 ^ l)) l = true
      · rw [if_pos h2, if_pos ⟨h, h2⟩, Nat.mul_comm]
      · rw [if_neg h2, if_neg (fun z => h2 z.2), Nat.mul_zero]
    · rw [if_neg h]
      exact ((sN_cong (fun l _ => if_neg (fun z => h z.1))).trans (sN_00 n)).symm
  rw [e1, e2]
  refine (sN_swap _ _ _).trans (Eq.trans ?_ (sN_swap _ _ _).symm)
  refine sN_cong (fun l hl => ?_)
  rw [← sN_x (fun S => if cnt S = m + 1 ∧ S.testBit l = true ∧ cfB v n (andn S (2 ^ l)) l = true then GN v n (andn S (2 ^ l)) * fcN v n (n - (m + 1)) S else 0) hl]
  refine sN_cong (fun S hS => ?_)
  cases hb : S.testBit l with
  | true =>
    rw [if_neg (fun z => by have := cf_n z.2; rw [hb] at this; cases this), if_neg (fun z => by have := z.2.1; rw [x_tb, hb] at this; cases this)]
  | false =>
    have ex : andn (S ^^^ 2 ^ l) (2 ^ l) = S := by rw [an_x (by rw [x_tb, hb]; rfl), Nat.xor_assoc, Nat.xor_self, Nat.xor_zero]
    have hc := cnt_x l (by omega) S (by omega) hb
    rw [ex, or_x hb, hc, x_tb, hb]
    by_cases h : cnt S = m ∧ cfB v n S l = true
    · rw [if_pos h, if_pos ⟨by omega, rfl, h.2⟩]
    · rw [if_neg h, if_neg (fun z => h ⟨by omega, z.2.2⟩)]
theorem hm_fc {v : ov} {n : Nat} (h6 : n ≤ 6) : hmN v n = fcN v n n 0 := by
  have hpos := Nat.two_pow_pos n
  have h64 : 2 ^ n ≤ 64 := pw_le (b := 6) h6
  have hT : ∀ m, m ≤ n → TN v n 0 = TN v n m := by
    intro m
    induction m with
    | zero => intro _; rfl
    | succ m ih => intro hm; rw [ih (by omega), T_s h6 (by omega)]
  have h0 : TN v n 0 = fcN v n n 0 := by
    unfold TN
    obtain ⟨q, hq⟩ : ∃ q, 2 ^ n = 1 + q := ⟨2 ^ n - 1, by omega⟩
    rw [hq, sN_spl, sN_cong (g := fun i => if cnt (1 + i) = 0 then GN v n (1 + i) * fcN v n (n - 0) (1 + i) else 0) (f := fun _ => 0) (fun i hi => if_neg (fun z => by have := cnt_0 (show 1 + i < 4096 by omega) z; omega)), sN_00, Nat.add_zero]
    show 0 + (if cnt 0 = 0 then GN v n 0 * fcN v n (n - 0) 0 else 0) = _
    rw [if_pos cnt_z, G_0, Nat.one_mul, Nat.zero_add, Nat.sub_zero]
  have h1 : TN v n n = hmN v n := by
    unfold TN
    obtain ⟨q, hq⟩ : ∃ q, 2 ^ n = q + 1 := ⟨2 ^ n - 1, by omega⟩
    have hq2 : q = 2 ^ n - 1 := by omega
    rw [hq]
    show sN _ q + (if cnt q = n then GN v n q * fcN v n (n - n) q else 0) = _
    rw [sN_cong (f := fun _ => 0) (fun i hi => if_neg (fun z => by have := cnt_fu n (by omega) i (by omega) z; omega)), sN_00, Nat.zero_add, hq2, if_pos (cnt_fl n (by omega)), Nat.sub_self, fc_0, Nat.mul_one]
    unfold hmN
    rw [wt_G (by omega)]
  rw [← h1, ← h0, hT n (Nat.le_refl n)]

