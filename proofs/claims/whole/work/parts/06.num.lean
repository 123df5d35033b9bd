theorem fa_and (a b : Nat) : nI a &&& nI b = nI (a &&& b) := by
  apply Int32.toBitVec_inj.1
  show BitVec.ofNat 32 a &&& BitVec.ofNat 32 b = BitVec.ofNat 32 (a &&& b)
  apply BitVec.eq_of_getLsbD_eq
  intro i hi
  simp [hi]
theorem fa_or (a b : Nat) : nI a ||| nI b = nI (a ||| b) := by
  apply Int32.toBitVec_inj.1
  show BitVec.ofNat 32 a ||| BitVec.ofNat 32 b = BitVec.ofNat 32 (a ||| b)
  apply BitVec.eq_of_getLsbD_eq
  intro i hi
  simp [hi]
theorem s_l : ∀ n, n < 32 → ((nI n &&& 31).toBitVec.smod 32).toNat = n := by decide +kernel
theorem nx_xor (a b : Nat) : nI a ^^^ nI b = nI (a ^^^ b) := by
  apply Int32.toBitVec_inj.1
  show BitVec.ofNat 32 a ^^^ BitVec.ofNat 32 b = BitVec.ofNat 32 (a ^^^ b)
  apply BitVec.eq_of_getLsbD_eq
  intro i hi
  simp [hi]
theorem n_tb (n : Nat) : (nI n).toBitVec.toNat = n % 2 ^ 32 := BitVec.toNat_ofNat n 32
theorem n_shl (n : Nat) {c : Nat} (hc : c < 32) : nI n <<< (nI c &&& 31) = nI (n * 2 ^ c) := by
  apply Int32.toBitVec_inj.mp
  apply BitVec.eq_of_toNat_eq
  rw [pk_shl _ _ c (s_l c hc), n_tb, n_tb, Nat.mod_mul_mod]
theorem n_shr {n c : Nat} (hn : n < 2 ^ 31) (hc : c < 32) : nI n >>> (nI c &&& 31) = nI (n / 2 ^ c) := pk_shrN hn _ c (s_l c hc)
theorem n_lt0 {n : Nat} (h : n < 2 ^ 31) : ¬ nI n < 0 := nI_pos h
theorem n_inc (a : Nat) : nI a + Int32.ofInt 1 = nI (a + 1) := nI_1 a
theorem n_dec (a : Nat) : nI (a + 1) + Int32.ofInt (-1) = nI a := pk_m1 a
theorem n_low {n : Nat} : nI n = nI (n % 2 ^ 32) := by
  apply Int32.toBitVec_inj.mp
  apply BitVec.eq_of_toNat_eq
  rw [n_tb, n_tb, Nat.mod_mod]
theorem n_cl {n : Nat} (h : n < 2 ^ 31) : (nI n).toNatClampNeg = n := nI_clamp h
section EVN
variable {N d : Nat} {μ : mI} {X : mX} {pc : Nat} {L S : List Value} {M : mM} {P : Option Value → mM → Prop}
theorem ev_iaddN {a b : Nat} (h : decode μ.2.1 pc = .ok (.iadd, 1)) (k : Ev N d μ X (pc + 1) L (.int (nI (a + b)) :: S) M P) : Ev N d μ X pc L (.int (nI b) :: .int (nI a) :: S) M P := ev_iadd h (by rw [nI_add]; exact k)
theorem ev_isubN {a b : Nat} (h : decode μ.2.1 pc = .ok (.isub, 1)) (hb : b ≤ a) (k : Ev N d μ X (pc + 1) L (.int (nI (a - b)) :: S) M P) : Ev N d μ X pc L (.int (nI b) :: .int (nI a) :: S) M P := ev_isub h (by rw [pk_sub hb]; exact k)
theorem ev_imulN {a b : Nat} (h : decode μ.2.1 pc = .ok (.imul, 1)) (k : Ev N d μ X (pc + 1) L (.int (nI (a * b)) :: S) M P) : Ev N d μ X pc L (.int (nI b) :: .int (nI a) :: S) M P := ev_imul h (by rw [pk_mul]; exact k)
theorem ev_iandN {a b : Nat} (h : decode μ.2.1 pc = .ok (.iand, 1)) (k : Ev N d μ X (pc + 1) L (.int (nI (a &&& b)) :: S) M P) : Ev N d μ X pc L (.int (nI b) :: .int (nI a) :: S) M P := ev_iand h (by rw [fa_and]; exact k)
theorem ev_iand1 {a : Nat} (h : decode μ.2.1 pc = .ok (.iand, 1)) (k : Ev N d μ X (pc + 1) L (.int (nI (a % 2)) :: S) M P) : Ev N d μ X pc L (.int (nI 1) :: .int (nI a) :: S) M P := ev_iandN h (by rw [Nat.and_one_is_mod]; exact k)
theorem ev_iorN {a b : Nat} (h : decode μ.2.1 pc = .ok (.ior, 1)) (k : Ev N d μ X (pc + 1) L (.int (nI (a ||| b)) :: S) M P) : Ev N d μ X pc L (.int (nI b) :: .int (nI a) :: S) M P := ev_ior h (by rw [fa_or]; exact k)
theorem ev_ishlN {a c : Nat} (h : decode μ.2.1 pc = .ok (.ishl, 1)) (hc : c < 32) (k : Ev N d μ X (pc + 1) L (.int (nI (a * 2 ^ c)) :: S) M P) : Ev N d μ X pc L (.int (nI c) :: .int (nI a) :: S) M P := ev_ishl h (by rw [n_shl a hc]; exact k)
theorem ev_ishl1 {c : Nat} (h : decode μ.2.1 pc = .ok (.ishl, 1)) (hc : c < 32) (k : Ev N d μ X (pc + 1) L (.int (nI (2 ^ c)) :: S) M P) : Ev N d μ X pc L (.int (nI c) :: .int (nI 1) :: S) M P := ev_ishlN h hc (by rw [Nat.one_mul]; exact k)
theorem ev_ishrN {a c : Nat} (h : decode μ.2.1 pc = .ok (.ishr, 1)) (ha : a < 2 ^ 31) (hc : c < 32) (k : Ev N d μ X (pc + 1) L (.int (nI (a / 2 ^ c)) :: S) M P) : Ev N d μ X pc L (.int (nI c) :: .int (nI a) :: S) M P := ev_ishr h (by rw [n_shr ha hc]; exact k)
theorem ev_idivN {a b : Nat} (h : decode μ.2.1 pc = .ok (.idiv, 1)) (ha : a < 2 ^ 31) (h0 : 0 < b) (hb : b < 2 ^ 31) (k : Ev N d μ X (pc + 1) L (.int (nI (a / b)) :: S) M P) : Ev N d μ X pc L (.int (nI b) :: .int (nI a) :: S) M P := ev_idiv h (nI_ne0 h0 hb) (by rw [pk_div ha h0 hb]; exact k)
theorem ev_iremN {a b : Nat} (h : decode μ.2.1 pc = .ok (.irem, 1)) (ha : a < 2 ^ 31) (h0 : 0 < b) (hb : b < 2 ^ 31) (k : Ev N d μ X (pc + 1) L (.int (nI (a % b)) :: S) M P) : Ev N d μ X pc L (.int (nI b) :: .int (nI a) :: S) M P := ev_irem h (nI_ne0 h0 hb) (by rw [pk_rem ha h0 hb]; exact k)
theorem ev_incN {i a : Nat} (h : decode μ.2.1 pc = .ok (.iinc i 1, 3)) (hL : L[i]? = some (.int (nI a))) (hn : i < μ.2.2.1) (ho : e_okS L i = true) (k : Ev N d μ X (pc + 3) (L.set i (.int (nI (a + 1)))) S M P) : Ev N d μ X pc L S M P := ev_iinc h hL (n_inc a) hn ho k
theorem ev_decN {i a : Nat} (h : decode μ.2.1 pc = .ok (.iinc i (-1), 3)) (hL : L[i]? = some (.int (nI (a + 1)))) (hn : i < μ.2.2.1) (ho : e_okS L i = true) (k : Ev N d μ X (pc + 3) (L.set i (.int (nI a))) S M P) : Ev N d μ X pc L S M P := ev_iinc h hL (n_dec a) hn ho k
theorem ev_icmp_eqN {a b : Nat} {off : Int} (tgt : Nat) (h : decode μ.2.1 pc = .ok (.if_icmp .eq off, 3)) (ht : (pc : Int) + off = (tgt : Int)) (ha : a < 2 ^ 31) (hb : b < 2 ^ 31) (kt : a = b → Ev N d μ X tgt L S M P) (kf : a ≠ b → Ev N d μ X (pc + 3) L S M P) : Ev N d μ X pc L (.int (nI b) :: .int (nI a) :: S) M P :=
  ev_icmp_eq tgt h ht (fun z => kt ((nI_eq ha hb).mp z)) (fun z => kf (fun y => z ((nI_eq ha hb).mpr y)))
theorem ev_if_eqN {a : Nat} {off : Int} (tgt : Nat) (h : decode μ.2.1 pc = .ok (.ifCond .eq off, 3)) (ht : (pc : Int) + off = (tgt : Int)) (ha : a < 2 ^ 31) (kt : a = 0 → Ev N d μ X tgt L S M P) (kf : a ≠ 0 → Ev N d μ X (pc + 3) L S M P) : Ev N d μ X pc L (.int (nI a) :: S) M P :=
  ev_if_eq tgt h ht (fun z => kt ((nI_eq ha (show 0 < 2 ^ 31 by decide)).mp z)) (fun z => kf (fun y => z ((nI_eq ha (show 0 < 2 ^ 31 by decide)).mpr y)))
theorem ev_icmp_neN {a b : Nat} {off : Int} (tgt : Nat) (h : decode μ.2.1 pc = .ok (.if_icmp .ne off, 3)) (ht : (pc : Int) + off = (tgt : Int)) (ha : a < 2 ^ 31) (hb : b < 2 ^ 31) (kt : a ≠ b → Ev N d μ X tgt L S M P) (kf : a = b → Ev N d μ X (pc + 3) L S M P) : Ev N d μ X pc L (.int (nI b) :: .int (nI a) :: S) M P :=
  ev_icmp_ne tgt h ht (fun z => kt (fun y => z ((nI_eq ha hb).mpr y))) (fun z => kf ((nI_eq ha hb).mp z))
theorem ev_if_neN {a : Nat} {off : Int} (tgt : Nat) (h : decode μ.2.1 pc = .ok (.ifCond .ne off, 3)) (ht : (pc : Int) + off = (tgt : Int)) (ha : a < 2 ^ 31) (kt : a ≠ 0 → Ev N d μ X tgt L S M P) (kf : a = 0 → Ev N d μ X (pc + 3) L S M P) : Ev N d μ X pc L (.int (nI a) :: S) M P :=
  ev_if_ne tgt h ht (fun z => kt (fun y => z ((nI_eq ha (show 0 < 2 ^ 31 by decide)).mpr y))) (fun z => kf ((nI_eq ha (show 0 < 2 ^ 31 by decide)).mp z))
theorem ev_icmp_ltN {a b : Nat} {off : Int} (tgt : Nat) (h : decode μ.2.1 pc = .ok (.if_icmp .lt off, 3)) (ht : (pc : Int) + off = (tgt : Int)) (ha : a < 2 ^ 31) (hb : b < 2 ^ 31) (kt : a < b → Ev N d μ X tgt L S M P) (kf : b ≤ a → Ev N d μ X (pc + 3) L S M P) : Ev N d μ X pc L (.int (nI b) :: .int (nI a) :: S) M P :=
  ev_icmp_lt tgt h ht (fun z => kt ((nI_ltI ha hb).mp z)) (fun z => kf (Nat.le_of_not_lt (fun y => z ((nI_ltI ha hb).mpr y))))
theorem ev_if_ltN {a : Nat} {off : Int} (tgt : Nat) (h : decode μ.2.1 pc = .ok (.ifCond .lt off, 3)) (ht : (pc : Int) + off = (tgt : Int)) (ha : a < 2 ^ 31) (kt : a < 0 → Ev N d μ X tgt L S M P) (kf : 0 ≤ a → Ev N d μ X (pc + 3) L S M P) : Ev N d μ X pc L (.int (nI a) :: S) M P :=
  ev_if_lt tgt h ht (fun z => kt ((nI_ltI ha (show 0 < 2 ^ 31 by decide)).mp z)) (fun z => kf (Nat.le_of_not_lt (fun y => z ((nI_ltI ha (show 0 < 2 ^ 31 by decide)).mpr y))))
theorem ev_icmp_geN {a b : Nat} {off : Int} (tgt : Nat) (h : decode μ.2.1 pc = .ok (.if_icmp .ge off, 3)) (ht : (pc : Int) + off = (tgt : Int)) (ha : a < 2 ^ 31) (hb : b < 2 ^ 31) (kt : b ≤ a → Ev N d μ X tgt L S M P) (kf : a < b → Ev N d μ X (pc + 3) L S M P) : Ev N d μ X pc L (.int (nI b) :: .int (nI a) :: S) M P :=
  ev_icmp_ge tgt h ht (fun z => kt ((nI_leI hb ha).mp z)) (fun z => kf (Nat.lt_of_not_le (fun y => z ((nI_leI hb ha).mpr y))))
theorem ev_if_geN {a : Nat} {off : Int} (tgt : Nat) (h : decode μ.2.1 pc = .ok (.ifCond .ge off, 3)) (ht : (pc : Int) + off = (tgt : Int)) (ha : a < 2 ^ 31) (kt : 0 ≤ a → Ev N d μ X tgt L S M P) (kf : a < 0 → Ev N d μ X (pc + 3) L S M P) : Ev N d μ X pc L (.int (nI a) :: S) M P :=
  ev_if_ge tgt h ht (fun z => kt ((nI_leI (show 0 < 2 ^ 31 by decide) ha).mp z)) (fun z => kf (Nat.lt_of_not_le (fun y => z ((nI_leI (show 0 < 2 ^ 31 by decide) ha).mpr y))))
theorem ev_icmp_gtN {a b : Nat} {off : Int} (tgt : Nat) (h : decode μ.2.1 pc = .ok (.if_icmp .gt off, 3)) (ht : (pc : Int) + off = (tgt : Int)) (ha : a < 2 ^ 31) (hb : b < 2 ^ 31) (kt : b < a → Ev N d μ X tgt L S M P) (kf : a ≤ b → Ev N d μ X (pc + 3) L S M P) : Ev N d μ X pc L (.int (nI b) :: .int (nI a) :: S) M P :=
  ev_icmp_gt tgt h ht (fun z => kt ((nI_ltI hb ha).mp z)) (fun z => kf (Nat.le_of_not_lt (fun y => z ((nI_ltI hb ha).mpr y))))
theorem ev_if_gtN {a : Nat} {off : Int} (tgt : Nat) (h : decode μ.2.1 pc = .ok (.ifCond .gt off, 3)) (ht : (pc : Int) + off = (tgt : Int)) (ha : a < 2 ^ 31) (kt : 0 < a → Ev N d μ X tgt L S M P) (kf : a ≤ 0 → Ev N d μ X (pc + 3) L S M P) : Ev N d μ X pc L (.int (nI a) :: S) M P :=
  ev_if_gt tgt h ht (fun z => kt ((nI_ltI (show 0 < 2 ^ 31 by decide) ha).mp z)) (fun z => kf (Nat.le_of_not_lt (fun y => z ((nI_ltI (show 0 < 2 ^ 31 by decide) ha).mpr y))))
theorem ev_icmp_leN {a b : Nat} {off : Int} (tgt : Nat) (h : decode μ.2.1 pc = .ok (.if_icmp .le off, 3)) (ht : (pc : Int) + off = (tgt : Int)) (ha : a < 2 ^ 31) (hb : b < 2 ^ 31) (kt : a ≤ b → Ev N d μ X tgt L S M P) (kf : b < a → Ev N d μ X (pc + 3) L S M P) : Ev N d μ X pc L (.int (nI b) :: .int (nI a) :: S) M P :=
  ev_icmp_le tgt h ht (fun z => kt ((nI_leI ha hb).mp z)) (fun z => kf (Nat.lt_of_not_le (fun y => z ((nI_leI ha hb).mpr y))))
theorem ev_if_leN {a : Nat} {off : Int} (tgt : Nat) (h : decode μ.2.1 pc = .ok (.ifCond .le off, 3)) (ht : (pc : Int) + off = (tgt : Int)) (ha : a < 2 ^ 31) (kt : a ≤ 0 → Ev N d μ X tgt L S M P) (kf : 0 < a → Ev N d μ X (pc + 3) L S M P) : Ev N d μ X pc L (.int (nI a) :: S) M P :=
  ev_if_le tgt h ht (fun z => kt ((nI_leI ha (show 0 < 2 ^ 31 by decide)).mp z)) (fun z => kf (Nat.lt_of_not_le (fun y => z ((nI_leI ha (show 0 < 2 ^ 31 by decide)).mpr y))))
end EVN
/-! ===== booleans, bits, sums ===== -/
def bI (b : Bool) : Int32 := nI b.toNat
theorem bI_nar (b : Bool) : narrow .boolean (.int (bI b)) = .int (bI b) := by cases b <;> rfl
section EVB
variable {N d : Nat} {μ : mI} {X : mX} {pc : Nat} {L S : List Value} {M : mM} {P : Option Value → mM → Prop}
theorem ev_if_eqB {b : Bool} {off : Int} (tgt : Nat) (h : decode μ.2.1 pc = .ok (.ifCond .eq off, 3)) (ht : (pc : Int) + off = (tgt : Int)) (kt : b = false → Ev N d μ X tgt L S M P) (kf : b = true → Ev N d μ X (pc + 3) L S M P) : Ev N d μ X pc L (.int (bI b) :: S) M P := by
  cases b
  · exact ev_if_eqN tgt h ht (by decide) (fun _ => kt rfl) (fun z => absurd rfl z)
  · exact ev_if_eqN tgt h ht (by decide) (fun z => absurd z (by decide)) (fun _ => kf rfl)
theorem ev_if_neB {b : Bool} {off : Int} (tgt : Nat) (h : decode μ.2.1 pc = .ok (.ifCond .ne off, 3)) (ht : (pc : Int) + off = (tgt : Int)) (kt : b = true → Ev N d μ X tgt L S M P) (kf : b = false → Ev N d μ X (pc + 3) L S M P) : Ev N d μ X pc L (.int (bI b) :: S) M P := by
  cases b
  · exact ev_if_neN tgt h ht (by decide) (fun z => absurd rfl z) (fun _ => kf rfl)
  · exact ev_if_neN tgt h ht (by decide) (fun _ => kt rfl) (fun z => absurd z (by decide))
theorem ev_retb {b : Bool} (h : decode μ.2.1 pc = .ok (.ireturn, 1)) (hr : μ.2.2.2 = some .boolean) (hp : P (some (.int (bI b))) M) : Ev N d μ X pc L [.int (bI b)] M P := ev_reti h hr (bI_nar b) hp
end EVB
/-- the bits i below n with p i -/
def bN (p : Nat → Bool) : Nat → Nat
  | 0 => 0
  | n + 1 => if p n = true then bN p n ||| 2 ^ n else bN p n
/-- the union of the g i, i below n, with p i -/
def oN (p : Nat → Bool) (g : Nat → Nat) : Nat → Nat
  | 0 => 0
  | n + 1 => if p n = true then oN p g n ||| g n else oN p g n
def sN (g : Nat → Nat) : Nat → Nat
  | 0 => 0
  | n + 1 => sN g n + g n
theorem bN_tb (p : Nat → Bool) : ∀ (n i : Nat), (bN p n).testBit i = (decide (i < n) && p i)
  | 0, i => by simp [bN]
  | n + 1, i => by
    have ih := bN_tb p n i
    unfold bN
    by_cases hp : p n = true
    · rw [if_pos hp, Nat.testBit_or, ih, Nat.testBit_two_pow]
      by_cases h1 : n = i
      · subst h1
        simp [hp]
      · have h2 : decide (i < n + 1) = decide (i < n) := by
          rw [decide_eq_decide]; omega
        simp [h1, h2]
    · rw [if_neg hp, ih]
      by_cases h1 : n = i
      · subst h1
        simp [hp]
      · have h2 : decide (i < n + 1) = decide (i < n) := by
          rw [decide_eq_decide]; omega
        rw [h2]
theorem bN_lt (p : Nat → Bool) : ∀ n : Nat, bN p n < 2 ^ n
  | 0 => by simp [bN]
  | n + 1 => by
    have ih := bN_lt p n
    unfold bN
    have h2 : (2 : Nat) ^ (n + 1) = 2 ^ n + 2 ^ n := by rw [Nat.pow_succ]; omega
    split
    · exact Nat.or_lt_two_pow (by omega) (by omega)
    · omega
theorem bN_cong {p q : Nat → Bool} : ∀ {n : Nat}, (∀ i, i < n → p i = q i) → bN p n = bN q n
  | 0, _ => rfl
  | n + 1, h => by
    unfold bN
    rw [bN_cong (fun i hi => h i (by omega)), h n (by omega)]
theorem oN_lt {p : Nat → Bool} {g : Nat → Nat} {w : Nat} : ∀ {n : Nat}, (∀ i, i < n → g i < 2 ^ w) → oN p g n < 2 ^ w
  | 0, _ => by unfold oN; exact Nat.two_pow_pos w
  | n + 1, h => by
    have ih := oN_lt (p := p) (fun i hi => h i (Nat.lt_succ_of_lt hi))
    unfold oN
    split
    · exact Nat.or_lt_two_pow ih (h n (by omega))
    · exact ih
theorem oN_cong {p q : Nat → Bool} {g f : Nat → Nat} : ∀ {n : Nat}, (∀ i, i < n → p i = q i) → (∀ i, i < n → g i = f i) → oN p g n = oN q f n
  | 0, _, _ => rfl
  | n + 1, h, h2 => by
    unfold oN
    rw [oN_cong (fun i hi => h i (by omega)) (fun i hi => h2 i (by omega)), h n (by omega), h2 n (by omega)]
theorem oN_tb (p : Nat → Bool) (g : Nat → Nat) (i : Nat) : ∀ n : Nat, (oN p g n).testBit i = true ↔ ∃ k, k < n ∧ p k = true ∧ (g k).testBit i = true
  | 0 => by simp [oN]
  | n + 1 => by
    have ih := oN_tb p g i n
    unfold oN
    constructor
    · intro h
      split at h
      · next hp =>
        rw [Nat.testBit_or, Bool.or_eq_true] at h
        rcases h with h | h
        · obtain ⟨k, h1, h2⟩ := ih.mp h
          exact ⟨k, by omega, h2⟩
        · exact ⟨n, by omega, hp, h⟩
      · obtain ⟨k, h1, h2⟩ := ih.mp h
        exact ⟨k, by omega, h2⟩
    · rintro ⟨k, h1, h2, h3⟩
      by_cases hk : k = n
      · subst hk
        rw [if_pos h2, Nat.testBit_or, h3, Bool.or_true]
      · have h4 := ih.mpr ⟨k, by omega, h2, h3⟩
        split
        · rw [Nat.testBit_or, h4, Bool.true_or]
        · exact h4
theorem sN_cong {g f : Nat → Nat} : ∀ {n : Nat}, (∀ i, i < n → g i = f i) → sN g n = sN f n
  | 0, _ => rfl
  | n + 1, h => by
    unfold sN
    rw [sN_cong (fun i hi => h i (by omega)), h n (by omega)]
theorem sN_le {g : Nat → Nat} {b : Nat} : ∀ {n : Nat}, (∀ i, i < n → g i ≤ b) → sN g n ≤ n * b
  | 0, _ => by simp [sN]
  | n + 1, h => by
    have ih := sN_le (fun i hi => h i (Nat.lt_succ_of_lt hi))
    have h1 := h n (by omega)
    unfold sN
    rw [Nat.succ_mul]
    omega
theorem tb_d (n c : Nat) : (n / 2 ^ c % 2 = 1) ↔ n.testBit c = true := by
  rw [Nat.testBit_eq_decide_div_mod_eq, decide_eq_true_eq]
def dN (f : Nat → Nat) (n : Nat) : Nat → Nat := fun j => if j < n then f j else 0
