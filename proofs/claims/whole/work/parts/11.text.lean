/-! ===== text, over, counts of bits ===== -/
/-- the first c from c on, of j, with p -/
def lf (p : Nat → Bool) : Nat → Nat → Option Nat
  | 0, _ => none
  | j + 1, c => if p c = true then some c else lf p j (c + 1)
theorem lf_t {p : Nat → Bool} {j c : Nat} (h : p c = true) : lf p (j + 1) c = some c := if_pos h
theorem lf_f {p : Nat → Bool} {j c : Nat} (h : p c = false) : lf p (j + 1) c = lf p j (c + 1) := if_neg (by rw [h]; decide)
theorem lf_some {p : Nat → Bool} : ∀ {j c x : Nat}, lf p j c = some x → c ≤ x ∧ x < c + j ∧ p x = true ∧ ∀ i, c ≤ i → i < x → p i = false
  | 0, c, x, h => by cases h
  | j + 1, c, x, h => by
    by_cases hc : p c = true
    · rw [lf_t hc] at h
      cases h
      exact ⟨by omega, by omega, hc, fun i h1 h2 => by omega⟩
    · have hc2 : p c = false := by simpa using hc
      rw [lf_f hc2] at h
      obtain ⟨h1, h2, h3, h4⟩ := lf_some h
      refine ⟨by omega, by omega, h3, fun i h5 h6 => ?_⟩
      by_cases e : i = c
      · rw [e]; exact hc2
      · exact h4 i (by omega) h6
theorem lf_none {p : Nat → Bool} : ∀ {j c : Nat}, lf p j c = none → ∀ i, c ≤ i → i < c + j → p i = false
  | 0, c, h, i, h1, h2 => by omega
  | j + 1, c, h, i, h1, h2 => by
    by_cases hc : p c = true
    · rw [lf_t hc] at h
      cases h
    · have hc2 : p c = false := by simpa using hc
      rw [lf_f hc2] at h
      by_cases e : i = c
      · rw [e]; exact hc2
      · exact lf_none h i (by omega) (by omega)
theorem lf_cong {p q : Nat → Bool} : ∀ {j c : Nat}, (∀ i, c ≤ i → i < c + j → p i = q i) → lf p j c = lf q j c
  | 0, _, _ => rfl
  | j + 1, c, h => by
    unfold lf
    rw [h c (by omega) (by omega), lf_cong (fun i h1 h2 => h i (by omega) (by omega))]
/-- how many of the bits 0 .. 11 -/
def cnt (n : Nat) : Nat := sN (fun k => n / 2 ^ k % 2) 12
theorem cnt_le (n : Nat) : cnt n ≤ 12 := by
  have h := sN_le (g := fun k => n / 2 ^ k % 2) (b := 1) (n := 12) (fun i _ => by omega)
  simpa [cnt] using h
def bcE (x0 : Int32) : Int32 :=
  let u := fun (x s : Int32) => (x.toUInt32 >>> (s.toUInt32 &&& Int32.toUInt32 31)).toInt32
  let x1 := x0 - (u x0 (nI 1) &&& 1431655765)
  let x2 := (x1 &&& 858993459) + (u x1 (nI 2) &&& 858993459)
  let x3 := (x2 + u x2 (nI 4)) &&& 252645135
  let x4 := x3 + u x3 (nI 8)
  let x5 := x4 + u x4 (nI 16)
  x5 &&& nI 63
set_option maxRecDepth 100000 in
theorem bc_all : ∀ a, a < 64 → ∀ b, b < 64 → bcE (nI (64 * a + b)) = nI (cnt (64 * a + b)) := by decide +kernel
theorem bc_ok {n : Nat} (h : n < 4096) : bcE (nI n) = nI (cnt n) := by
  have e := bc_all (n / 64) (by omega) (n % 64) (by omega)
  rw [show 64 * (n / 64) + n % 64 = n by omega] at e
  exact e
theorem c_bitCount {N d n : Nat} {M : mM} {P : Option Value → mM → Prop} (hn : n < 4096) (hp : P (some (.int (nI (cnt n)))) M) : Ev N d mJ6_bitCount_0f7a4 none 0 [.int (nI n)] [] M P := by
  rw [← bc_ok hn] at hp
  refine ev_iload_n (i := 0) dJ6_bitCount_0f7a4_0 rfl rfl ?_
  refine ev_iload_n (i := 0) dJ6_bitCount_0f7a4_1 rfl rfl ?_
  refine ev_iconst (v := nI 1) dJ6_bitCount_0f7a4_2 rfl ?_
  refine ev_iushr dJ6_bitCount_0f7a4_3 rfl ?_
  refine ev_ldc_w dJ6_bitCount_0f7a4_4 kJ6_265 ?_
  refine ev_iand dJ6_bitCount_0f7a4_7 ?_
  refine ev_isub dJ6_bitCount_0f7a4_8 ?_
  refine ev_istore_n (i := 0) dJ6_bitCount_0f7a4_9 rfl (by decide) rfl ?_
  refine ev_iload_n (i := 0) dJ6_bitCount_0f7a4_10 rfl rfl ?_
  refine ev_ldc_w dJ6_bitCount_0f7a4_11 kJ6_266 ?_
  refine ev_iand dJ6_bitCount_0f7a4_14 ?_
  refine ev_iload_n (i := 0) dJ6_bitCount_0f7a4_15 rfl rfl ?_
  refine ev_iconst (v := nI 2) dJ6_bitCount_0f7a4_16 rfl ?_
  refine ev_iushr dJ6_bitCount_0f7a4_17 rfl ?_
  refine ev_ldc_w dJ6_bitCount_0f7a4_18 kJ6_266 ?_
  refine ev_iand dJ6_bitCount_0f7a4_21 ?_
  refine ev_iadd dJ6_bitCount_0f7a4_22 ?_
  refine ev_istore_n (i := 0) dJ6_bitCount_0f7a4_23 rfl (by decide) rfl ?_
  refine ev_iload_n (i := 0) dJ6_bitCount_0f7a4_24 rfl rfl ?_
  refine ev_iload_n (i := 0) dJ6_bitCount_0f7a4_25 rfl rfl ?_
  refine ev_iconst (v := nI 4) dJ6_bitCount_0f7a4_26 rfl ?_
  refine ev_iushr dJ6_bitCount_0f7a4_27 rfl ?_
  refine ev_iadd dJ6_bitCount_0f7a4_28 ?_
  refine ev_ldc_w dJ6_bitCount_0f7a4_29 kJ6_267 ?_
  refine ev_iand dJ6_bitCount_0f7a4_32 ?_
  refine ev_istore_n (i := 0) dJ6_bitCount_0f7a4_33 rfl (by decide) rfl ?_
  refine ev_iload_n (i := 0) dJ6_bitCount_0f7a4_34 rfl rfl ?_
  refine ev_iload_n (i := 0) dJ6_bitCount_0f7a4_35 rfl rfl ?_
  refine ev_bipush (v := nI 8) dJ6_bitCount_0f7a4_36 rfl ?_
  refine ev_iushr dJ6_bitCount_0f7a4_38 rfl ?_
  refine ev_iadd dJ6_bitCount_0f7a4_39 ?_
  refine ev_istore_n (i := 0) dJ6_bitCount_0f7a4_40 rfl (by decide) rfl ?_
  refine ev_iload_n (i := 0) dJ6_bitCount_0f7a4_41 rfl rfl ?_
  refine ev_iload_n (i := 0) dJ6_bitCount_0f7a4_42 rfl rfl ?_
  refine ev_bipush (v := nI 16) dJ6_bitCount_0f7a4_43 rfl ?_
  refine ev_iushr dJ6_bitCount_0f7a4_45 rfl ?_
  refine ev_iadd dJ6_bitCount_0f7a4_46 ?_
  refine ev_istore_n (i := 0) dJ6_bitCount_0f7a4_47 rfl (by decide) rfl ?_
  refine ev_iload_n (i := 0) dJ6_bitCount_0f7a4_48 rfl rfl ?_
  refine ev_bipush (v := nI 63) dJ6_bitCount_0f7a4_49 rfl ?_
  refine ev_iand dJ6_bitCount_0f7a4_51 ?_
  refine ev_reti dJ6_bitCount_0f7a4_52 rfl rfl ?_
  exact hp
abbrev tx : Type := Nat × (Nat → Nat)
def txOk (t : tx) : Prop := t.1 ≤ 40 ∧ ∀ i, i < t.1 → t.2 i < 256
def kTx (M : mM) (t : tx) : Prop := M 1 = .inr (5, [.ref 2, .int (nI t.1)]) ∧ arr M 2 40 t.1 t.2
def txAdd (t : tx) (b : Nat) : tx := (t.1 + 1, fun i => if i = t.1 then b else t.2 i)
theorem txAdd_ok {t : tx} {b : Nat} (h : txOk t) (hl : t.1 < 40) (hb : b < 256) : txOk (txAdd t b) := by
  refine ⟨hl, fun i hi => ?_⟩
  have hi : i < t.1 + 1 := hi
  show (if i = t.1 then b else t.2 i) < 256
  split
  · exact hb
  · exact h.2 i (by omega)
theorem kTx_ag {M M1 : mM} {a b : Nat} {t : tx} (h : kTx M t) (hg : ag M M1 a b) (hx : b ≤ 1 ∨ 3 ≤ a) : kTx M1 t := by
  obtain ⟨h1, f, h2, h3⟩ := h
  exact ⟨(hg _ (by omega)).trans h1, f, (hg _ (by omega)).trans h2, h3⟩
/-- a figure as the class reads it -/
theorem fg_ge {b lo : Nat} (hb : b < 256) (hl : lo < 256) : nI b - nI 48 < nI lo ↔ b < lo + 48 := by
  rw [Int32.lt_iff_toInt_lt, pk_sub_toInt (by omega) (by decide), nI_toInt (by omega)]
  omega
theorem fg_le {b hi : Nat} (hb : b < 256) (hl : hi < 256) : nI hi < nI b - nI 48 ↔ hi + 48 < b := by
  rw [Int32.lt_iff_toInt_lt, pk_sub_toInt (by omega) (by decide), nI_toInt (by omega)]
  omega
def fgB (b lo hi : Nat) : Bool := decide (lo + 48 ≤ b ∧ b ≤ hi + 48)
def rtB (t : tx) (i : Nat) : Bool := if i = 0 then decide (t.2 0 = 66) else if 30 < i then false else match (i - 1) % 5 with
  | 0 => decide (t.2 i = 76)
  | 1 => fgB (t.2 i) 0 8
  | 2 => fgB (t.2 i) 1 9
  | 3 => fgB (t.2 i) 1 3
  | _ => fgB (t.2 i) 0 3
/-- the first fault -/
def fltN (t : tx) : Option Nat := match lf (fun i => !rtB t i) t.1 0 with
  | some i => some i
  | none => if 0 < t.1 ∧ (t.1 - 1) % 5 = 0 then none else some t.1
def oI (o : Option Nat) : Int32 := match o with
  | none => (-9)
  | some i => nI i
section TXT
variable {d : Nat} {M : mM} {P : Option Value → mM → Prop} {t : tx}
theorem c_append {b : Nat} (hT : kTx M t) (ho : txOk t) (hf : P (some (.int (bI false))) M) (hl : ¬ t.1 < 40) : Ev 88 d mX5_append none 0 [.ref 1, .int (nI b)] [] M P := by
  have h1 := hT.1
  have h4 := ho.1
  obtain ⟨f, h2, h3⟩ := hT.2
  refine ev_aload_n (i := 0) dX5_append_0 rfl rfl ?_
  refine ev_getfield dX5_append_1 fX5_15 (by first | omega | decide) (by first | assumption | (simp (disch := omega) only [mu_s, mu_n]; first | assumption | rfl)) (by rfl) ?_
  refine ev_if_ltN 19 dX5_append_4 (by decide) (by omega) (fun b4 => by exfalso; omega) (fun b4 => ?_)
  refine ev_aload_n (i := 0) dX5_append_7 rfl rfl ?_
  refine ev_getfield dX5_append_8 fX5_15 (by first | omega | decide) (by first | assumption | (simp (disch := omega) only [mu_s, mu_n]; first | assumption | rfl)) (by rfl) ?_
  refine ev_aload_n (i := 0) dX5_append_11 rfl rfl ?_
  refine ev_getfield dX5_append_12 fX5_9 (by first | omega | decide) (by first | assumption | (simp (disch := omega) only [mu_s, mu_n]; first | assumption | rfl)) (by rfl) ?_
  refine ev_arraylength (v := nI 40) dX5_append_15 (by first | omega | decide) (by first | assumption | (simp (disch := omega) only [mu_s, mu_n]; first | assumption | rfl)) rfl ?_
  refine ev_icmp_ltN 21 dX5_append_16 (by decide) (by omega) (by omega) (fun b16 => by exfalso; omega) (fun b16 => ?_)
  refine ev_iconst (v := nI 0) dX5_append_19 rfl ?_
  refine ev_reti dX5_append_20 rfl (rfl) ?_
  exact hf
theorem c_append1 {b : Nat} (hT : kTx M t) (ho : txOk t) (hl : t.1 < 40) (hp : ∀ M1, ag M M1 1 3 → kTx M1 (txAdd t b) → P (some (.int (bI true))) M1) : Ev 88 d mX5_append none 0 [.ref 1, .int (nI b)] [] M P := by
  have h1 := hT.1
  have h4 := ho.1
  obtain ⟨f, h2, h3⟩ := hT.2
  refine ev_aload_n (i := 0) dX5_append_0 rfl rfl ?_
  refine ev_getfield dX5_append_1 fX5_15 (by first | omega | decide) (by first | assumption | (simp (disch := omega) only [mu_s, mu_n]; first | assumption | rfl)) (by rfl) ?_
  refine ev_if_ltN 19 dX5_append_4 (by decide) (by omega) (fun b4 => by exfalso; omega) (fun b4 => ?_)
  refine ev_aload_n (i := 0) dX5_append_7 rfl rfl ?_
  refine ev_getfield dX5_append_8 fX5_15 (by first | omega | decide) (by first | assumption | (simp (disch := omega) only [mu_s, mu_n]; first | assumption | rfl)) (by rfl) ?_
  refine ev_aload_n (i := 0) dX5_append_11 rfl rfl ?_
  refine ev_getfield dX5_append_12 fX5_9 (by first | omega | decide) (by first | assumption | (simp (disch := omega) only [mu_s, mu_n]; first | assumption | rfl)) (by rfl) ?_
  refine ev_arraylength (v := nI 40) dX5_append_15 (by first | omega | decide) (by first | assumption | (simp (disch := omega) only [mu_s, mu_n]; first | assumption | rfl)) rfl ?_
  refine ev_icmp_ltN 21 dX5_append_16 (by decide) (by omega) (by omega) (fun b16 => ?_) (fun b16 => by exfalso; omega)
  refine ev_aload_n (i := 0) dX5_append_21 rfl rfl ?_
  refine ev_getfield dX5_append_22 fX5_9 (by first | omega | decide) (by first | assumption | (simp (disch := omega) only [mu_s, mu_n]; first | assumption | rfl)) (by rfl) ?_
  refine ev_aload_n (i := 0) dX5_append_25 rfl rfl ?_
  refine ev_getfield dX5_append_26 fX5_15 (by first | omega | decide) (by first | assumption | (simp (disch := omega) only [mu_s, mu_n]; first | assumption | rfl)) (by rfl) ?_
  refine ev_iload_n (i := 1) dX5_append_29 rfl rfl ?_
  refine ev_iastoreN dX5_append_30 (by first | omega | decide) (by first | assumption | (simp (disch := omega) only [mu_s, mu_n]; first | assumption | rfl)) (by omega) (by decide) ?_
  refine ev_aload_n (i := 0) dX5_append_31 rfl rfl ?_
  refine ev_dup dX5_append_32 rfl ?_
  refine ev_getfield dX5_append_33 fX5_15 (by first | omega | decide) (by first | assumption | (simp (disch := omega) only [mu_s, mu_n]; first | assumption | rfl)) (by rfl) ?_
  refine ev_iconst (v := nI 1) dX5_append_36 rfl ?_
  refine ev_iaddN dX5_append_37 ?_
  refine ev_putI dX5_append_38 fwX5_15 (by first | omega | decide) (by first | assumption | (simp (disch := omega) only [mu_s, mu_n]; first | assumption | rfl)) (Nat.le_of_ble_eq_true rfl) ?_
  refine ev_iconst (v := nI 1) dX5_append_41 rfl ?_
  refine ev_reti dX5_append_42 rfl (rfl) ?_
  refine hp _ (ag_mu (ag_mu (ag_rf M _ _) (by omega) (by omega)) (by omega) (by omega)) ⟨mu_s _ _ _, _, (mu_n (by omega)).trans (mu_s _ _ _), fun i hi => ?_⟩
  have hi : i < t.1 + 1 := hi
  show (if i = t.1 then nI b else f i) = nI (if i = t.1 then b else t.2 i)
  split
  · rfl
  · exact h3 i (by omega)
theorem c_byteAt {i : Nat} (hT : kTx M t) (ho : txOk t) (hi : i < t.1) (hp : P (some (.int (nI (t.2 i)))) M) : Ev 88 d mX5_byteAt none 0 [.ref 1, .int (nI i)] [] M P := by
  have h1 := hT.1
  have h4 := ho.1
  obtain ⟨f, h2, h3⟩ := hT.2
  rw [← h3 i hi] at hp
  refine ev_iload_n (i := 1) dX5_byteAt_0 rfl rfl ?_
  refine ev_if_ltN 30 dX5_byteAt_1 (by decide) (by omega) (fun b1 => by exfalso; omega) (fun b1 => ?_)
  refine ev_iload_n (i := 1) dX5_byteAt_4 rfl rfl ?_
  refine ev_aload_n (i := 0) dX5_byteAt_5 rfl rfl ?_
  refine ev_getfield dX5_byteAt_6 fX5_15 (by first | omega | decide) (by first | assumption | (simp (disch := omega) only [mu_s, mu_n]; first | assumption | rfl)) (by rfl) ?_
  refine ev_icmp_geN 30 dX5_byteAt_9 (by decide) (by omega) (by omega) (fun b9 => by exfalso; omega) (fun b9 => ?_)
  refine ev_iload_n (i := 1) dX5_byteAt_12 rfl rfl ?_
  refine ev_aload_n (i := 0) dX5_byteAt_13 rfl rfl ?_
  refine ev_getfield dX5_byteAt_14 fX5_9 (by first | omega | decide) (by first | assumption | (simp (disch := omega) only [mu_s, mu_n]; first | assumption | rfl)) (by rfl) ?_
  refine ev_arraylength (v := nI 40) dX5_byteAt_17 (by first | omega | decide) (by first | assumption | (simp (disch := omega) only [mu_s, mu_n]; first | assumption | rfl)) rfl ?_
  refine ev_icmp_geN 30 dX5_byteAt_18 (by decide) (by omega) (by omega) (fun b18 => by exfalso; omega) (fun b18 => ?_)
  refine ev_aload_n (i := 0) dX5_byteAt_21 rfl rfl ?_
  refine ev_getfield dX5_byteAt_22 fX5_9 (by first | omega | decide) (by first | assumption | (simp (disch := omega) only [mu_s, mu_n]; first | assumption | rfl)) (by rfl) ?_
  refine ev_iload_n (i := 1) dX5_byteAt_25 rfl rfl ?_
  refine ev_ialoadN dX5_byteAt_26 (by first | omega | decide) (by first | assumption | (simp (disch := omega) only [mu_s, mu_n]; first | assumption | rfl)) (by omega) (by decide) ?_
  refine ev_goto 32 dX5_byteAt_27 (by decide) ?_
  refine ev_reti dX5_byteAt_32 rfl rfl ?_
  exact hp
theorem c_figureAt {i : Nat} (hT : kTx M t) (ho : txOk t) (hi : i < t.1) (hp : P (some (.int (nI (t.2 i) - nI 48))) M) : Ev 88 (d + 1) mX5_figureAt none 0 [.ref 1, .int (nI i)] [] M P := by
  have h1 := hT.1
  refine ev_aload_n (i := 0) dX5_figureAt_0 rfl rfl ?_
  refine ev_iload_n (i := 1) dX5_figureAt_1 rfl rfl ?_
  refine ev_V1 (μ1 := mX5_byteAt) dX5_figureAt_2 sX5_19 okX5_byteAt (by first | omega | decide) (by first | assumption | (simp (disch := omega) only [mu_s, mu_n]; first | assumption | rfl)) (Nat.le_of_ble_eq_true rfl) (Nat.le_of_ble_eq_true rfl) ?_
  refine c_byteAt hT ho hi ?_
  refine ev_bipush (v := nI 48) dX5_figureAt_5 rfl ?_
  refine ev_isub dX5_figureAt_7 ?_
  refine ev_reti dX5_figureAt_8 rfl rfl ?_
  exact hp
theorem c_isFigure {i lo hh : Nat} (hT : kTx M t) (ho : txOk t) (hi : i < t.1) (hlo : lo < 256) (hhi : hh < 256) (hp : P (some (.int (bI (fgB (t.2 i) lo hh)))) M) : Ev 88 (d + 2) mX5_isFigure none 0 [.ref 1, .int (nI i), .int (nI lo), .int (nI hh)] [] M P := by
  have h1 := hT.1
  have hb := ho.2 i hi
  have g1 := fg_ge hb hlo
  have g2 := fg_le hb hhi
  refine ev_aload_n (i := 0) dX5_isFigure_0 rfl rfl ?_
  refine ev_iload_n (i := 1) dX5_isFigure_1 rfl rfl ?_
  refine ev_V1 (μ1 := mX5_figureAt) dX5_isFigure_2 sX5_31 okX5_figureAt (by first | omega | decide) (by first | assumption | (simp (disch := omega) only [mu_s, mu_n]; first | assumption | rfl)) (Nat.le_of_ble_eq_true rfl) (Nat.le_of_ble_eq_true rfl) ?_
  refine c_figureAt hT ho hi ?_
  refine ev_iload_n (i := 2) dX5_isFigure_5 rfl rfl ?_
  refine ev_icmp_lt 22 dX5_isFigure_6 (by decide) (fun b6 => ?_) (fun b6 => ?_)
  · skip
    refine ev_iconst (v := nI 0) dX5_isFigure_22 rfl ?_
    refine ev_reti dX5_isFigure_23 rfl rfl ?_
    exact e_retF (by first | (rw [g2] at b15; exact decide_eq_false (by omega)) | (rw [g1] at b6; exact decide_eq_false (by omega))) hp
  · skip
    refine ev_aload_n (i := 0) dX5_isFigure_9 rfl rfl ?_
    refine ev_iload_n (i := 1) dX5_isFigure_10 rfl rfl ?_
    refine ev_V1 (μ1 := mX5_figureAt) dX5_isFigure_11 sX5_31 okX5_figureAt (by first | omega | decide) (by first | assumption | (simp (disch := omega) only [mu_s, mu_n]; first | assumption | rfl)) (Nat.le_of_ble_eq_true rfl) (Nat.le_of_ble_eq_true rfl) ?_
    refine c_figureAt hT ho hi ?_
    refine ev_iload_n (i := 3) dX5_isFigure_14 rfl rfl ?_
    refine ev_icmp_gt 22 dX5_isFigure_15 (by decide) (fun b15 => ?_) (fun b15 => ?_)
    · skip
      refine ev_iconst (v := nI 0) dX5_isFigure_22 rfl ?_
      refine ev_reti dX5_isFigure_23 rfl rfl ?_
      exact e_retF (by first | (rw [g2] at b15; exact decide_eq_false (by omega)) | (rw [g1] at b6; exact decide_eq_false (by omega))) hp
    · skip
      refine ev_iconst (v := nI 1) dX5_isFigure_18 rfl ?_
      refine ev_goto 23 dX5_isFigure_19 (by decide) ?_
      refine ev_reti dX5_isFigure_23 rfl rfl ?_
      exact e_retT (by rw [g1] at b6; rw [g2] at b15; exact decide_eq_true ⟨by omega, by omega⟩) hp
theorem c_isRight {i : Nat} (hT : kTx M t) (ho : txOk t) (hi : i < t.1) (hp : P (some (.int (bI (rtB t i)))) M) : Ev 88 (d + 3) mX5_isRight none 0 [.ref 1, .int (nI i)] [] M P := by
  have h1 := hT.1
  have h4 := ho.1
  by_cases h0 : i = 0
  · subst h0
    have e : rtB t 0 = decide (t.2 0 = 66) := rfl
    have hb := ho.2 0 hi
    rw [e] at hp
    refine ev_iload_n (i := 1) dX5_isRight_0 rfl rfl ?_
    refine ev_if_neN 20 dX5_isRight_1 (by decide) (by omega) (fun b1 => by exfalso; omega) (fun b1 => ?_)
    refine ev_aload_n (i := 0) dX5_isRight_4 rfl rfl ?_
    refine ev_iconst (v := nI 0) dX5_isRight_5 rfl ?_
    refine ev_V1 (μ1 := mX5_byteAt) dX5_isRight_6 sX5_19 okX5_byteAt (by first | omega | decide) (by first | assumption | (simp (disch := omega) only [mu_s, mu_n]; first | assumption | rfl)) (Nat.le_of_ble_eq_true rfl) (Nat.le_of_ble_eq_true rfl) ?_
    refine c_byteAt hT ho hi ?_
    refine ev_bipush (v := nI 66) dX5_isRight_9 rfl ?_
    refine ev_icmp_neN 18 dX5_isRight_11 (by decide) (by omega) (by omega) (fun b11 => ?_) (fun b11 => ?_)
    · skip
      refine ev_iconst (v := nI 0) dX5_isRight_18 rfl ?_
      refine ev_reti dX5_isRight_19 rfl rfl ?_
      exact e_retF (decide_eq_false b11) hp
    · skip
      refine ev_iconst (v := nI 1) dX5_isRight_14 rfl ?_
      refine ev_goto 19 dX5_isRight_15 (by decide) ?_
      refine ev_reti dX5_isRight_19 rfl rfl ?_
      exact e_retT (decide_eq_true b11) hp
  · by_cases h30 : 30 < i
    · have e : rtB t i = false := by unfold rtB; rw [if_neg h0, if_pos h30]
      refine ev_iload_n (i := 1) dX5_isRight_0 rfl rfl ?_
      refine ev_if_neN 20 dX5_isRight_1 (by decide) (by omega) (fun b1 => ?_) (fun b1 => by exfalso; omega)
      refine ev_iload_n (i := 1) dX5_isRight_20 rfl rfl ?_
      refine ev_bipush (v := nI 30) dX5_isRight_21 rfl ?_
      refine ev_icmp_leN 28 dX5_isRight_23 (by decide) (by omega) (by omega) (fun b23 => by exfalso; omega) (fun b23 => ?_)
      refine ev_iconst (v := nI 0) dX5_isRight_26 rfl ?_
      refine ev_reti dX5_isRight_27 rfl rfl ?_
      exact e_retF (e) hp
    · have e : rtB t i = (match (i - 1) % 5 with | 0 => decide (t.2 i = 76) | 1 => fgB (t.2 i) 0 8 | 2 => fgB (t.2 i) 1 9 | 3 => fgB (t.2 i) 1 3 | _ => fgB (t.2 i) 0 3) := by unfold rtB; rw [if_neg h0, if_neg h30]
      have hb := ho.2 i hi
      rw [e] at hp
      rcases (show (i - 1) % 5 = 0 ∨ (i - 1) % 5 = 1 ∨ (i - 1) % 5 = 2 ∨ (i - 1) % 5 = 3 ∨ (i - 1) % 5 = 4 by omega) with hr | hr | hr | hr | hr
      · rw [hr] at hp
        refine ev_iload_n (i := 1) dX5_isRight_0 rfl rfl ?_
        refine ev_if_neN 20 dX5_isRight_1 (by decide) (by omega) (fun b1 => ?_) (fun b1 => by exfalso; omega)
        refine ev_iload_n (i := 1) dX5_isRight_20 rfl rfl ?_
        refine ev_bipush (v := nI 30) dX5_isRight_21 rfl ?_
        refine ev_icmp_leN 28 dX5_isRight_23 (by decide) (by omega) (by omega) (fun b23 => ?_) (fun b23 => by exfalso; omega)
        refine ev_iload_n (i := 1) dX5_isRight_28 rfl rfl ?_
        refine ev_iconst (v := nI 1) dX5_isRight_29 rfl ?_
        refine ev_isubN dX5_isRight_30 (by omega) ?_
        refine ev_iconst (v := nI 5) dX5_isRight_31 rfl ?_
        refine ev_iremN dX5_isRight_32 (by omega) (by omega) (by omega) ?_
        refine ev_top (i_op (congrArg nI hr)) ?_
        refine ev_tsw_in (off := 31) 64 dX5_isRight_33 (by decide) (by decide) (by decide) (by decide) ?_
        refine ev_aload_n (i := 0) dX5_isRight_64 rfl rfl ?_
        refine ev_iload_n (i := 1) dX5_isRight_65 rfl rfl ?_
        refine ev_V1 (μ1 := mX5_byteAt) dX5_isRight_66 sX5_19 okX5_byteAt (by first | omega | decide) (by first | assumption | (simp (disch := omega) only [mu_s, mu_n]; first | assumption | rfl)) (Nat.le_of_ble_eq_true rfl) (Nat.le_of_ble_eq_true rfl) ?_
        refine c_byteAt hT ho hi ?_
        refine ev_bipush (v := nI 76) dX5_isRight_69 rfl ?_
        refine ev_icmp_neN 78 dX5_isRight_71 (by decide) (by omega) (by omega) (fun b71 => ?_) (fun b71 => ?_)
        · skip
          refine ev_iconst (v := nI 0) dX5_isRight_78 rfl ?_
          refine ev_reti dX5_isRight_79 rfl rfl ?_
          exact e_retF (decide_eq_false b71) hp
        · skip
          refine ev_iconst (v := nI 1) dX5_isRight_74 rfl ?_
          refine ev_goto 79 dX5_isRight_75 (by decide) ?_
          refine ev_reti dX5_isRight_79 rfl rfl ?_
          exact e_retT (decide_eq_true b71) hp
      · rw [hr] at hp
        refine ev_iload_n (i := 1) dX5_isRight_0 rfl rfl ?_
        refine ev_if_neN 20 dX5_isRight_1 (by decide) (by omega) (fun b1 => ?_) (fun b1 => by exfalso; omega)
        refine ev_iload_n (i := 1) dX5_isRight_20 rfl rfl ?_
        refine ev_bipush (v := nI 30) dX5_isRight_21 rfl ?_
        refine ev_icmp_leN 28 dX5_isRight_23 (by decide) (by omega) (by omega) (fun b23 => ?_) (fun b23 => by exfalso; omega)
        refine ev_iload_n (i := 1) dX5_isRight_28 rfl rfl ?_
        refine ev_iconst (v := nI 1) dX5_isRight_29 rfl ?_
        refine ev_isubN dX5_isRight_30 (by omega) ?_
        refine ev_iconst (v := nI 5) dX5_isRight_31 rfl ?_
        refine ev_iremN dX5_isRight_32 (by omega) (by omega) (by omega) ?_
        refine ev_top (i_op (congrArg nI hr)) ?_
        refine ev_tsw_in (off := 47) 80 dX5_isRight_33 (by decide) (by decide) (by decide) (by decide) ?_
        refine ev_aload_n (i := 0) dX5_isRight_80 rfl rfl ?_
        refine ev_iload_n (i := 1) dX5_isRight_81 rfl rfl ?_
        refine ev_iconst (v := nI 0) dX5_isRight_82 rfl ?_
        refine ev_bipush (v := nI 8) dX5_isRight_83 rfl ?_
        refine ev_V3 (μ1 := mX5_isFigure) dX5_isRight_85 sX5_27 okX5_isFigure (by first | omega | decide) (by first | assumption | (simp (disch := omega) only [mu_s, mu_n]; first | assumption | rfl)) (Nat.le_of_ble_eq_true rfl) (Nat.le_of_ble_eq_true rfl) ?_
        refine c_isFigure hT ho hi (by decide) (by decide) ?_
        refine ev_reti dX5_isRight_88 rfl (bI_nar _) ?_
        exact hp
      · rw [hr] at hp
        refine ev_iload_n (i := 1) dX5_isRight_0 rfl rfl ?_
        refine ev_if_neN 20 dX5_isRight_1 (by decide) (by omega) (fun b1 => ?_) (fun b1 => by exfalso; omega)
        refine ev_iload_n (i := 1) dX5_isRight_20 rfl rfl ?_
        refine ev_bipush (v := nI 30) dX5_isRight_21 rfl ?_
        refine ev_icmp_leN 28 dX5_isRight_23 (by decide) (by omega) (by omega) (fun b23 => ?_) (fun b23 => by exfalso; omega)
        refine ev_iload_n (i := 1) dX5_isRight_28 rfl rfl ?_
        refine ev_iconst (v := nI 1) dX5_isRight_29 rfl ?_
        refine ev_isubN dX5_isRight_30 (by omega) ?_
        refine ev_iconst (v := nI 5) dX5_isRight_31 rfl ?_
        refine ev_iremN dX5_isRight_32 (by omega) (by omega) (by omega) ?_
        refine ev_top (i_op (congrArg nI hr)) ?_
        refine ev_tsw_in (off := 56) 89 dX5_isRight_33 (by decide) (by decide) (by decide) (by decide) ?_
        refine ev_aload_n (i := 0) dX5_isRight_89 rfl rfl ?_
        refine ev_iload_n (i := 1) dX5_isRight_90 rfl rfl ?_
        refine ev_iconst (v := nI 1) dX5_isRight_91 rfl ?_
        refine ev_bipush (v := nI 9) dX5_isRight_92 rfl ?_
        refine ev_V3 (μ1 := mX5_isFigure) dX5_isRight_94 sX5_27 okX5_isFigure (by first | omega | decide) (by first | assumption | (simp (disch := omega) only [mu_s, mu_n]; first | assumption | rfl)) (Nat.le_of_ble_eq_true rfl) (Nat.le_of_ble_eq_true rfl) ?_
        refine c_isFigure hT ho hi (by decide) (by decide) ?_
        refine ev_reti dX5_isRight_97 rfl (bI_nar _) ?_
        exact hp
      · rw [hr] at hp
        refine ev_iload_n (i := 1) dX5_isRight_0 rfl rfl ?_
        refine ev_if_neN 20 dX5_isRight_1 (by decide) (by omega) (fun b1 => ?_) (fun b1 => by exfalso; omega)
        refine ev_iload_n (i := 1) dX5_isRight_20 rfl rfl ?_
        refine ev_bipush (v := nI 30) dX5_isRight_21 rfl ?_
        refine ev_icmp_leN 28 dX5_isRight_23 (by decide) (by omega) (by omega) (fun b23 => ?_) (fun b23 => by exfalso; omega)
        refine ev_iload_n (i := 1) dX5_isRight_28 rfl rfl ?_
        refine ev_iconst (v := nI 1) dX5_isRight_29 rfl ?_
        refine ev_isubN dX5_isRight_30 (by omega) ?_
        refine ev_iconst (v := nI 5) dX5_isRight_31 rfl ?_
        refine ev_iremN dX5_isRight_32 (by omega) (by omega) (by omega) ?_
        refine ev_top (i_op (congrArg nI hr)) ?_
        refine ev_tsw_in (off := 65) 98 dX5_isRight_33 (by decide) (by decide) (by decide) (by decide) ?_
        refine ev_aload_n (i := 0) dX5_isRight_98 rfl rfl ?_
        refine ev_iload_n (i := 1) dX5_isRight_99 rfl rfl ?_
        refine ev_iconst (v := nI 1) dX5_isRight_100 rfl ?_
        refine ev_iconst (v := nI 3) dX5_isRight_101 rfl ?_
        refine ev_V3 (μ1 := mX5_isFigure) dX5_isRight_102 sX5_27 okX5_isFigure (by first | omega | decide) (by first | assumption | (simp (disch := omega) only [mu_s, mu_n]; first | assumption | rfl)) (Nat.le_of_ble_eq_true rfl) (Nat.le_of_ble_eq_true rfl) ?_
        refine c_isFigure hT ho hi (by decide) (by decide) ?_
        refine ev_reti dX5_isRight_105 rfl (bI_nar _) ?_
        exact hp
      · rw [hr] at hp
        refine ev_iload_n (i := 1) dX5_isRight_0 rfl rfl ?_
        refine ev_if_neN 20 dX5_isRight_1 (by decide) (by omega) (fun b1 => ?_) (fun b1 => by exfalso; omega)
        refine ev_iload_n (i := 1) dX5_isRight_20 rfl rfl ?_
        refine ev_bipush (v := nI 30) dX5_isRight_21 rfl ?_
        refine ev_icmp_leN 28 dX5_isRight_23 (by decide) (by omega) (by omega) (fun b23 => ?_) (fun b23 => by exfalso; omega)
        refine ev_iload_n (i := 1) dX5_isRight_28 rfl rfl ?_
        refine ev_iconst (v := nI 1) dX5_isRight_29 rfl ?_
        refine ev_isubN dX5_isRight_30 (by omega) ?_
        refine ev_iconst (v := nI 5) dX5_isRight_31 rfl ?_
        refine ev_iremN dX5_isRight_32 (by omega) (by omega) (by omega) ?_
        refine ev_top (i_op (congrArg nI hr)) ?_
        refine ev_tsw_out 106 dX5_isRight_33 (Or.inr (by decide)) (by decide) ?_
        refine ev_aload_n (i := 0) dX5_isRight_106 rfl rfl ?_
        refine ev_iload_n (i := 1) dX5_isRight_107 rfl rfl ?_
        refine ev_iconst (v := nI 0) dX5_isRight_108 rfl ?_
        refine ev_iconst (v := nI 3) dX5_isRight_109 rfl ?_
        refine ev_V3 (μ1 := mX5_isFigure) dX5_isRight_110 sX5_27 okX5_isFigure (by first | omega | decide) (by first | assumption | (simp (disch := omega) only [mu_s, mu_n]; first | assumption | rfl)) (Nat.le_of_ble_eq_true rfl) (Nat.le_of_ble_eq_true rfl) ?_
        refine c_isFigure hT ho hi (by decide) (by decide) ?_
        refine ev_reti dX5_isRight_113 rfl (bI_nar _) ?_
        exact hp
theorem c_firstFault (hT : kTx M t) (ho : txOk t) (hp : P (some (.int (oI (fltN t)))) M) : Ev 88 (d + 4) mX5_firstFault none 0 [.ref 1, .null] [] M P := by
  have h1 := hT.1
  have h4 := ho.1
  have lp : ∀ (j c : Nat), c + j = t.1 → lf (fun i => !rtB t i) t.1 0 = lf (fun i => !rtB t i) j c → Ev 88 (d + 4) mX5_firstFault none 2 [.ref 1, .int (nI c)] [] M P := by
    intro j
    induction j with
    | zero =>
      intro c hc e
      obtain rfl : c = t.1 := by omega
      unfold fltN at hp
      rw [show lf (fun i => !rtB t i) t.1 0 = none from e] at hp
      by_cases h0 : 0 < t.1
      · by_cases h5 : (t.1 - 1) % 5 = 0
        · have hp : P (some (.int (oI (if 0 < t.1 ∧ (t.1 - 1) % 5 = 0 then none else some t.1)))) M := hp
          rw [if_pos ⟨h0, h5⟩] at hp
          refine ev_iload_n (i := 1) dX5_firstFault_2 rfl rfl ?_
          refine ev_aload_n (i := 0) dX5_firstFault_3 rfl rfl ?_
          refine ev_getfield dX5_firstFault_4 fX5_15 (by first | omega | decide) (by first | assumption | (simp (disch := omega) only [mu_s, mu_n]; first | assumption | rfl)) (by rfl) ?_
          refine ev_icmp_geN 26 dX5_firstFault_7 (by decide) (by omega) (by omega) (fun b7 => ?_) (fun b7 => by exfalso; omega)
          refine ev_aload_n (i := 0) dX5_firstFault_26 rfl rfl ?_
          refine ev_getfield dX5_firstFault_27 fX5_15 (by first | omega | decide) (by first | assumption | (simp (disch := omega) only [mu_s, mu_n]; first | assumption | rfl)) (by rfl) ?_
          refine ev_if_leN 49 dX5_firstFault_30 (by decide) (by omega) (fun b30 => by exfalso; omega) (fun b30 => ?_)
          refine ev_aload_n (i := 0) dX5_firstFault_33 rfl rfl ?_
          refine ev_getfield dX5_firstFault_34 fX5_15 (by first | omega | decide) (by first | assumption | (simp (disch := omega) only [mu_s, mu_n]; first | assumption | rfl)) (by rfl) ?_
          refine ev_iconst (v := nI 1) dX5_firstFault_37 rfl ?_
          refine ev_isubN dX5_firstFault_38 (by omega) ?_
          refine ev_iconst (v := nI 5) dX5_firstFault_39 rfl ?_
          refine ev_iremN dX5_firstFault_40 (by omega) (by omega) (by omega) ?_
          refine ev_if_neN 49 dX5_firstFault_41 (by decide) (by omega) (fun b41 => by exfalso; omega) (fun b41 => ?_)
          refine ev_bipush (v := (-9)) dX5_firstFault_44 rfl ?_
          refine ev_goto 53 dX5_firstFault_46 (by decide) ?_
          refine ev_reti dX5_firstFault_53 rfl rfl ?_
          exact hp
        · have hp : P (some (.int (oI (if 0 < t.1 ∧ (t.1 - 1) % 5 = 0 then none else some t.1)))) M := hp
          rw [if_neg (fun z => h5 z.2)] at hp
          refine ev_iload_n (i := 1) dX5_firstFault_2 rfl rfl ?_
          refine ev_aload_n (i := 0) dX5_firstFault_3 rfl rfl ?_
          refine ev_getfield dX5_firstFault_4 fX5_15 (by first | omega | decide) (by first | assumption | (simp (disch := omega) only [mu_s, mu_n]; first | assumption | rfl)) (by rfl) ?_
          refine ev_icmp_geN 26 dX5_firstFault_7 (by decide) (by omega) (by omega) (fun b7 => ?_) (fun b7 => by exfalso; omega)
          refine ev_aload_n (i := 0) dX5_firstFault_26 rfl rfl ?_
          refine ev_getfield dX5_firstFault_27 fX5_15 (by first | omega | decide) (by first | assumption | (simp (disch := omega) only [mu_s, mu_n]; first | assumption | rfl)) (by rfl) ?_
          refine ev_if_leN 49 dX5_firstFault_30 (by decide) (by omega) (fun b30 => by exfalso; omega) (fun b30 => ?_)
          refine ev_aload_n (i := 0) dX5_firstFault_33 rfl rfl ?_
          refine ev_getfield dX5_firstFault_34 fX5_15 (by first | omega | decide) (by first | assumption | (simp (disch := omega) only [mu_s, mu_n]; first | assumption | rfl)) (by rfl) ?_
          refine ev_iconst (v := nI 1) dX5_firstFault_37 rfl ?_
          refine ev_isubN dX5_firstFault_38 (by omega) ?_
          refine ev_iconst (v := nI 5) dX5_firstFault_39 rfl ?_
          refine ev_iremN dX5_firstFault_40 (by omega) (by omega) (by omega) ?_
          refine ev_if_neN 49 dX5_firstFault_41 (by decide) (by omega) (fun b41 => ?_) (fun b41 => by exfalso; omega)
          refine ev_aload_n (i := 0) dX5_firstFault_49 rfl rfl ?_
          refine ev_getfield dX5_firstFault_50 fX5_15 (by first | omega | decide) (by first | assumption | (simp (disch := omega) only [mu_s, mu_n]; first | assumption | rfl)) (by rfl) ?_
          refine ev_reti dX5_firstFault_53 rfl rfl ?_
          exact hp
      · have hp : P (some (.int (oI (if 0 < t.1 ∧ (t.1 - 1) % 5 = 0 then none else some t.1)))) M := hp
        rw [if_neg (fun z => h0 z.1)] at hp
        refine ev_iload_n (i := 1) dX5_firstFault_2 rfl rfl ?_
        refine ev_aload_n (i := 0) dX5_firstFault_3 rfl rfl ?_
        refine ev_getfield dX5_firstFault_4 fX5_15 (by first | omega | decide) (by first | assumption | (simp (disch := omega) only [mu_s, mu_n]; first | assumption | rfl)) (by rfl) ?_
        refine ev_icmp_geN 26 dX5_firstFault_7 (by decide) (by omega) (by omega) (fun b7 => ?_) (fun b7 => by exfalso; omega)
        refine ev_aload_n (i := 0) dX5_firstFault_26 rfl rfl ?_
        refine ev_getfield dX5_firstFault_27 fX5_15 (by first | omega | decide) (by first | assumption | (simp (disch := omega) only [mu_s, mu_n]; first | assumption | rfl)) (by rfl) ?_
        refine ev_if_leN 49 dX5_firstFault_30 (by decide) (by omega) (fun b30 => ?_) (fun b30 => by exfalso; omega)
        refine ev_aload_n (i := 0) dX5_firstFault_49 rfl rfl ?_
        refine ev_getfield dX5_firstFault_50 fX5_15 (by first | omega | decide) (by first | assumption | (simp (disch := omega) only [mu_s, mu_n]; first | assumption | rfl)) (by rfl) ?_
        refine ev_reti dX5_firstFault_53 rfl rfl ?_
        exact hp
    | succ j ih =>
      intro c hc e
      refine ev_iload_n (i := 1) dX5_firstFault_2 rfl rfl ?_
      refine ev_aload_n (i := 0) dX5_firstFault_3 rfl rfl ?_
      refine ev_getfield dX5_firstFault_4 fX5_15 (by first | omega | decide) (by first | assumption | (simp (disch := omega) only [mu_s, mu_n]; first | assumption | rfl)) (by rfl) ?_
      refine ev_icmp_geN 26 dX5_firstFault_7 (by decide) (by omega) (by omega) (fun b7 => by exfalso; omega) (fun b7 => ?_)
      refine ev_aload_n (i := 0) dX5_firstFault_10 rfl rfl ?_
      refine ev_iload_n (i := 1) dX5_firstFault_11 rfl rfl ?_
      refine ev_V1 (μ1 := mX5_isRight) dX5_firstFault_12 sX5_23 okX5_isRight (by first | omega | decide) (by first | assumption | (simp (disch := omega) only [mu_s, mu_n]; first | assumption | rfl)) (Nat.le_of_ble_eq_true rfl) (Nat.le_of_ble_eq_true rfl) ?_
      refine c_isRight hT ho (by omega) ?_
      refine ev_if_neB 20 dX5_firstFault_15 (by decide) (fun b15 => ?_) (fun b15 => ?_)
      · skip
        refine ev_incN dX5_firstFault_20 (by rfl) (by decide) rfl ?_
        refine ev_goto 2 dX5_firstFault_23 (by decide) ?_
        exact ih _ (by omega) (e.trans (lf_f (by rw [b15]; rfl)))
      · skip
        refine ev_iload_n (i := 1) dX5_firstFault_18 rfl rfl ?_
        refine ev_reti dX5_firstFault_19 rfl rfl ?_
        rw [lf_t (by rw [b15]; rfl)] at e
        unfold fltN at hp
        rw [e] at hp
        exact hp
  refine ev_iconst (v := nI 0) dX5_firstFault_0 rfl ?_
  refine ev_istore_n (i := 1) dX5_firstFault_1 rfl (by decide) rfl ?_
  exact lp t.1 0 (by omega) rfl
end TXT
