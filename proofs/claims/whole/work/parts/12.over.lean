/-! ===== over ===== -/
abbrev ov : Type := Nat × (Nat → Nat) × (Nat → Nat)
def ovOk (v : ov) : Prop := v.1 ≤ 6 ∧ ∀ i, i < v.1 → v.2.1 i < 6 ∧ v.2.2 i < 6
def kOv (M : mM) (v : ov) : Prop := M 58 = .inr (2, [.ref 59, .ref 60, .ref 61, .int (nI v.1)]) ∧ arr M 59 6 v.1 v.2.1 ∧ arr M 60 6 v.1 v.2.2 ∧ ∃ w, M 61 = .inl (0, 64, .inl w)
def ovAdd (v : ov) (a b : Nat) : ov := (v.1 + 1, fun i => if i = v.1 then a else v.2.1 i, fun i => if i = v.1 then b else v.2.2 i)
theorem ovAdd_ok {v : ov} {a b : Nat} (h : ovOk v) (hl : v.1 < 6) (ha : a < 6) (hb : b < 6) : ovOk (ovAdd v a b) := by
  refine ⟨hl, fun i hi => ?_⟩
  have hi : i < v.1 + 1 := hi
  show (if i = v.1 then a else v.2.1 i) < 6 ∧ (if i = v.1 then b else v.2.2 i) < 6
  by_cases e : i = v.1
  · rw [if_pos e, if_pos e]; exact ⟨ha, hb⟩
  · rw [if_neg e, if_neg e]; exact h.2 i (by omega)
theorem arr_ag {M M1 : mM} {i n m a b : Nat} {g : Nat → Nat} (h : arr M i n m g) (hg : ag M M1 a b) (hx : b ≤ i ∨ i < a) : arr M1 i n m g := by
  obtain ⟨f, h1, h2⟩ := h
  exact ⟨f, (hg _ (by omega)).trans h1, h2⟩
theorem kOv_ag {M M1 : mM} {a b : Nat} {v : ov} (h : kOv M v) (hg : ag M M1 a b) (hx : b ≤ 58 ∨ 62 ≤ a) : kOv M1 v := by
  obtain ⟨h1, h2, h3, w, h4⟩ := h
  exact ⟨(hg _ (by omega)).trans h1, arr_ag h2 hg (by omega), arr_ag h3 hg (by omega), w, (hg _ (by omega)).trans h4⟩
def andn (a b : Nat) : Nat := (a ||| b) ^^^ b
theorem andn_tb (a b i : Nat) : (andn a b).testBit i = (a.testBit i && !b.testBit i) := by
  unfold andn
  rw [Nat.testBit_xor, Nat.testBit_or]
  cases a.testBit i <;> cases b.testBit i <;> rfl
theorem andn_nI (a b : Nat) : nI a &&& (nI b ^^^ (-1)) = nI (andn a b) := by
  apply Int32.toBitVec_inj.1
  apply BitVec.eq_of_getLsbD_eq
  intro i hi
  have e1 : (-1 : Int32).toBitVec.getLsbD i = true := by
    have h0 : (-1 : Int32).toBitVec = BitVec.allOnes 32 := by decide
    rw [h0, BitVec.getLsbD_allOnes]; exact decide_eq_true hi
  have e2 : ∀ n : Nat, (nI n).toBitVec.getLsbD i = n.testBit i := fun n => by
    show (BitVec.ofNat 32 n).getLsbD i = n.testBit i
    rw [BitVec.getLsbD_ofNat]
    simp [hi]
  rw [Int32.toBitVec_and, BitVec.getLsbD_and, Int32.toBitVec_xor, BitVec.getLsbD_xor, e1, e2, e2, e2, andn_tb]
  cases b.testBit i <;> simp
theorem andn_le (a b : Nat) : andn a b ≤ a := by
  apply Nat.le_of_testBit
  intro i h
  rw [andn_tb, Bool.and_eq_true] at h
  exact h.1
/-- those that a letter lies over -/
def sbN (v : ov) (n l : Nat) : Nat := oN (fun i => decide (v.2.1 i = l) && decide (v.2.2 i < n)) (fun i => 2 ^ v.2.2 i) v.1
theorem sbN_lt {v : ov} (h : ovOk v) (n l : Nat) : sbN v n l < 64 := oN_lt (w := 6) (fun i hi => Nat.pow_lt_pow_right (by decide) (h.2 i hi).2)
def cfB (v : ov) (n pr l : Nat) : Bool := !pr.testBit l && decide (andn (sbN v n l) pr = 0)
/-- the table of the numbers of orders, below k -/
def wtN (v : ov) (n : Nat) : Nat → Nat → Nat
  | 0 => fun _ => 0
  | k + 1 => fun s => if s = k then (if k = 0 then 1 else sN (fun l => if k.testBit l = true ∧ cfB v n (andn k (2 ^ l)) l = true then wtN v n k (andn k (2 ^ l)) else 0) n) else wtN v n k s
def hmN (v : ov) (n : Nat) : Nat := wtN v n (2 ^ n) (2 ^ n - 1)
def foN (v : ov) (n : Nat) : Nat → Nat → Nat → Option Nat
  | 0, _, fg => some fg
  | j + 1, pr, fg => match lf (cfB v n pr) n 0 with
    | none => none
    | some l => foN v n j (pr ||| 2 ^ l) (10 * fg + l + 1)
section OVE
variable {d : Nat} {M : mM} {P : Option Value → mM → Prop} {v : ov}
theorem c_oAdd0 {a b : Nat} (hV : kOv M v) (ho : ovOk v) (hl : ¬ v.1 < 6) (hp : P (some (.int (bI false))) M) : Ev 88 d mX2_add none 0 [.ref 58, .int (nI a), .int (nI b)] [] M P := by
  have h1 := hV.1
  have h4 := ho.1
  refine ev_aload_n (i := 0) dX2_add_0 rfl rfl ?_
  refine ev_getfield dX2_add_1 fX2_21 (by first | omega | decide) (by first | assumption | (simp (disch := omega) only [mu_s, mu_n]; first | assumption | rfl)) (by rfl) ?_
  refine ev_if_ltN 16 dX2_add_4 (by decide) (by omega) (fun b4 => by exfalso; omega) (fun b4 => ?_)
  refine ev_aload_n (i := 0) dX2_add_7 rfl rfl ?_
  refine ev_getfield dX2_add_8 fX2_21 (by first | omega | decide) (by first | assumption | (simp (disch := omega) only [mu_s, mu_n]; first | assumption | rfl)) (by rfl) ?_
  refine ev_bipush (v := nI 6) dX2_add_11 rfl ?_
  refine ev_icmp_ltN 18 dX2_add_13 (by decide) (by omega) (by omega) (fun b13 => by exfalso; omega) (fun b13 => ?_)
  refine ev_iconst (v := nI 0) dX2_add_16 rfl ?_
  refine ev_reti dX2_add_17 rfl rfl ?_
  exact e_retF (rfl) hp
theorem c_oAdd1 {a b : Nat} (hV : kOv M v) (ho : ovOk v) (hl : v.1 < 6) (hp : ∀ M1, ag M M1 58 61 → kOv M1 (ovAdd v a b) → P (some (.int (bI true))) M1) : Ev 88 d mX2_add none 0 [.ref 58, .int (nI a), .int (nI b)] [] M P := by
  obtain ⟨h1, ⟨f, h2, h3⟩, ⟨g, h5, h6⟩, w, h7⟩ := hV
  have h4 := ho.1
  refine ev_aload_n (i := 0) dX2_add_0 rfl rfl ?_
  refine ev_getfield dX2_add_1 fX2_21 (by first | omega | decide) (by first | assumption | (simp (disch := omega) only [mu_s, mu_n]; first | assumption | rfl)) (by rfl) ?_
  refine ev_if_ltN 16 dX2_add_4 (by decide) (by omega) (fun b4 => by exfalso; omega) (fun b4 => ?_)
  refine ev_aload_n (i := 0) dX2_add_7 rfl rfl ?_
  refine ev_getfield dX2_add_8 fX2_21 (by first | omega | decide) (by first | assumption | (simp (disch := omega) only [mu_s, mu_n]; first | assumption | rfl)) (by rfl) ?_
  refine ev_bipush (v := nI 6) dX2_add_11 rfl ?_
  refine ev_icmp_ltN 18 dX2_add_13 (by decide) (by omega) (by omega) (fun b13 => ?_) (fun b13 => by exfalso; omega)
  refine ev_aload_n (i := 0) dX2_add_18 rfl rfl ?_
  refine ev_getfield dX2_add_19 fX2_9 (by first | omega | decide) (by first | assumption | (simp (disch := omega) only [mu_s, mu_n]; first | assumption | rfl)) (by rfl) ?_
  refine ev_aload_n (i := 0) dX2_add_22 rfl rfl ?_
  refine ev_getfield dX2_add_23 fX2_21 (by first | omega | decide) (by first | assumption | (simp (disch := omega) only [mu_s, mu_n]; first | assumption | rfl)) (by rfl) ?_
  refine ev_iload_n (i := 1) dX2_add_26 rfl rfl ?_
  refine ev_iastoreN dX2_add_27 (by first | omega | decide) (by first | assumption | (simp (disch := omega) only [mu_s, mu_n]; first | assumption | rfl)) (by omega) (by decide) ?_
  refine ev_aload_n (i := 0) dX2_add_28 rfl rfl ?_
  refine ev_getfield dX2_add_29 fX2_15 (by first | omega | decide) (by first | assumption | (simp (disch := omega) only [mu_s, mu_n]; first | assumption | rfl)) (by rfl) ?_
  refine ev_aload_n (i := 0) dX2_add_32 rfl rfl ?_
  refine ev_getfield dX2_add_33 fX2_21 (by first | omega | decide) (by first | assumption | (simp (disch := omega) only [mu_s, mu_n]; first | assumption | rfl)) (by rfl) ?_
  refine ev_iload_n (i := 2) dX2_add_36 rfl rfl ?_
  refine ev_iastoreN dX2_add_37 (by first | omega | decide) (by first | assumption | (simp (disch := omega) only [mu_s, mu_n]; first | assumption | rfl)) (by omega) (by decide) ?_
  refine ev_aload_n (i := 0) dX2_add_38 rfl rfl ?_
  refine ev_dup dX2_add_39 rfl ?_
  refine ev_getfield dX2_add_40 fX2_21 (by first | omega | decide) (by first | assumption | (simp (disch := omega) only [mu_s, mu_n]; first | assumption | rfl)) (by rfl) ?_
  refine ev_iconst (v := nI 1) dX2_add_43 rfl ?_
  refine ev_iaddN dX2_add_44 ?_
  refine ev_putI dX2_add_45 fwX2_21 (by first | omega | decide) (by first | assumption | (simp (disch := omega) only [mu_s, mu_n]; first | assumption | rfl)) (Nat.le_of_ble_eq_true rfl) ?_
  refine ev_iconst (v := nI 1) dX2_add_48 rfl ?_
  refine ev_reti dX2_add_49 rfl (rfl) ?_
  refine hp _ (ag_mu (ag_mu (ag_mu (ag_rf M _ _) (by omega) (by omega)) (by omega) (by omega)) (by omega) (by omega)) ⟨mu_s _ _ _, ⟨_, (mu_n (by omega)).trans ((mu_n (by omega)).trans (mu_s _ _ _)), fun i hi => ?_⟩, ⟨_, (mu_n (by omega)).trans (mu_s _ _ _), fun i hi => ?_⟩, w, (mu_n (by omega)).trans ((mu_n (by omega)).trans ((mu_n (by omega)).trans h7))⟩
  · have hi : i < v.1 + 1 := hi
    show (if i = v.1 then nI a else f i) = nI (if i = v.1 then a else v.2.1 i)
    split
    · rfl
    · exact h3 i (by omega)
  · have hi : i < v.1 + 1 := hi
    show (if i = v.1 then nI b else g i) = nI (if i = v.1 then b else v.2.2 i)
    split
    · rfl
    · exact h6 i (by omega)
theorem c_setBelow {l n : Nat} (hV : kOv M v) (ho : ovOk v) (hl : l < 2 ^ 31) (hn : n < 2 ^ 31) (hp : P (some (.int (nI (sbN v n l)))) M) : Ev 88 d mX2_setBelow none 0 [.ref 58, .int (nI l), .int (nI n), .null, .null] [] M P := by
  obtain ⟨h1, ⟨f, h2, h3⟩, ⟨g, h5, h6⟩, w, h7⟩ := hV
  have h4 := ho.1
  have lp : ∀ (j c acc : Nat), c + j = v.1 → acc = oN (fun i => decide (v.2.1 i = l) && decide (v.2.2 i < n)) (fun i => 2 ^ v.2.2 i) c → Ev 88 d mX2_setBelow none 5 [.ref 58, .int (nI l), .int (nI n), .int (nI acc), .int (nI c)] [] M P := by
    intro j
    induction j with
    | zero =>
      intro c acc hc ha
      obtain rfl : c = v.1 := by omega
      subst ha
      refine ev_iload (i := 4) dX2_setBelow_5 rfl ?_
      refine ev_aload_n (i := 0) dX2_setBelow_7 rfl rfl ?_
      refine ev_getfield dX2_setBelow_8 fX2_21 (by first | omega | decide) (by first | assumption | (simp (disch := omega) only [mu_s, mu_n]; first | assumption | rfl)) (by rfl) ?_
      refine ev_icmp_geN 61 dX2_setBelow_11 (by decide) (by omega) (by omega) (fun b11 => ?_) (fun b11 => by exfalso; omega)
      refine ev_iload_n (i := 3) dX2_setBelow_61 rfl rfl ?_
      refine ev_reti dX2_setBelow_62 rfl rfl ?_
      exact hp
    | succ j ih =>
      intro c acc hc ha
      obtain ⟨hu, hw⟩ := ho.2 c (by omega)
      have e1 := h3 c (by omega)
      have e2 := h6 c (by omega)
      refine ev_iload (i := 4) dX2_setBelow_5 rfl ?_
      refine ev_aload_n (i := 0) dX2_setBelow_7 rfl rfl ?_
      refine ev_getfield dX2_setBelow_8 fX2_21 (by first | omega | decide) (by first | assumption | (simp (disch := omega) only [mu_s, mu_n]; first | assumption | rfl)) (by rfl) ?_
      refine ev_icmp_geN 61 dX2_setBelow_11 (by decide) (by omega) (by omega) (fun b11 => by exfalso; omega) (fun b11 => ?_)
      refine ev_iload (i := 4) dX2_setBelow_14 rfl ?_
      refine ev_bipush (v := nI 6) dX2_setBelow_16 rfl ?_
      refine ev_icmp_geN 61 dX2_setBelow_18 (by decide) (by omega) (by omega) (fun b18 => by exfalso; omega) (fun b18 => ?_)
      refine ev_aload_n (i := 0) dX2_setBelow_21 rfl rfl ?_
      refine ev_getfield dX2_setBelow_22 fX2_9 (by first | omega | decide) (by first | assumption | (simp (disch := omega) only [mu_s, mu_n]; first | assumption | rfl)) (by rfl) ?_
      refine ev_iload (i := 4) dX2_setBelow_25 rfl ?_
      refine ev_ialoadN dX2_setBelow_27 (by first | omega | decide) (by first | assumption | (simp (disch := omega) only [mu_s, mu_n]; first | assumption | rfl)) (by omega) (by decide) ?_
      refine ev_top (i_op e1) ?_
      refine ev_iload_n (i := 1) dX2_setBelow_28 rfl rfl ?_
      refine ev_icmp_neN 55 dX2_setBelow_29 (by decide) (by omega) (by omega) (fun b29 => ?_) (fun b29 => ?_)
      · skip
        refine ev_incN dX2_setBelow_55 (by rfl) (by decide) rfl ?_
        refine ev_goto 5 dX2_setBelow_58 (by decide) ?_
        first
        | (have q : v.2.1 c ≠ l := b29
           exact ih _ _ (by omega) (ha.trans (oN_f (by simp [q]))))
        | (have q : n ≤ v.2.2 c := b40
           exact ih _ _ (by omega) (ha.trans (oN_f (by simp; omega))))
        | exact ih _ _ (by omega) (by rw [ha]; exact oN_t (by simp [b29, b40]))
      · skip
        refine ev_aload_n (i := 0) dX2_setBelow_32 rfl rfl ?_
        refine ev_getfield dX2_setBelow_33 fX2_15 (by first | omega | decide) (by first | assumption | (simp (disch := omega) only [mu_s, mu_n]; first | assumption | rfl)) (by rfl) ?_
        refine ev_iload (i := 4) dX2_setBelow_36 rfl ?_
        refine ev_ialoadN dX2_setBelow_38 (by first | omega | decide) (by first | assumption | (simp (disch := omega) only [mu_s, mu_n]; first | assumption | rfl)) (by omega) (by decide) ?_
        refine ev_top (i_op e2) ?_
        refine ev_iload_n (i := 2) dX2_setBelow_39 rfl rfl ?_
        refine ev_icmp_geN 55 dX2_setBelow_40 (by decide) (by omega) (by omega) (fun b40 => ?_) (fun b40 => ?_)
        · skip
          refine ev_incN dX2_setBelow_55 (by rfl) (by decide) rfl ?_
          refine ev_goto 5 dX2_setBelow_58 (by decide) ?_
          first
          | (have q : v.2.1 c ≠ l := b29
             exact ih _ _ (by omega) (ha.trans (oN_f (by simp [q]))))
          | (have q : n ≤ v.2.2 c := b40
             exact ih _ _ (by omega) (ha.trans (oN_f (by simp; omega))))
          | exact ih _ _ (by omega) (by rw [ha]; exact oN_t (by simp [b29, b40]))
        · skip
          refine ev_iload_n (i := 3) dX2_setBelow_43 rfl rfl ?_
          refine ev_iconst (v := nI 1) dX2_setBelow_44 rfl ?_
          refine ev_aload_n (i := 0) dX2_setBelow_45 rfl rfl ?_
          refine ev_getfield dX2_setBelow_46 fX2_15 (by first | omega | decide) (by first | assumption | (simp (disch := omega) only [mu_s, mu_n]; first | assumption | rfl)) (by rfl) ?_
          refine ev_iload (i := 4) dX2_setBelow_49 rfl ?_
          refine ev_ialoadN dX2_setBelow_51 (by first | omega | decide) (by first | assumption | (simp (disch := omega) only [mu_s, mu_n]; first | assumption | rfl)) (by omega) (by decide) ?_
          refine ev_top (i_op e2) ?_
          refine ev_ishl1 dX2_setBelow_52 (by omega) ?_
          refine ev_iorN dX2_setBelow_53 ?_
          refine ev_istore_n (i := 3) dX2_setBelow_54 rfl (by decide) rfl ?_
          refine ev_incN dX2_setBelow_55 (by rfl) (by decide) rfl ?_
          refine ev_goto 5 dX2_setBelow_58 (by decide) ?_
          first
          | (have q : v.2.1 c ≠ l := b29
             exact ih _ _ (by omega) (ha.trans (oN_f (by simp [q]))))
          | (have q : n ≤ v.2.2 c := b40
             exact ih _ _ (by omega) (ha.trans (oN_f (by simp; omega))))
          | exact ih _ _ (by omega) (by rw [ha]; exact oN_t (by simp [b29, b40]))
  refine ev_iconst (v := nI 0) dX2_setBelow_0 rfl ?_
  refine ev_istore_n (i := 3) dX2_setBelow_1 rfl (by decide) rfl ?_
  refine ev_iconst (v := nI 0) dX2_setBelow_2 rfl ?_
  refine ev_istore (i := 4) dX2_setBelow_3 (by decide) rfl ?_
  exact lp v.1 0 0 (by omega) rfl
theorem c_canFollow {l pr n : Nat} (hV : kOv M v) (ho : ovOk v) (hl : l < 32) (hpr : pr < 2 ^ 31) (hn : n < 2 ^ 31) (hp : P (some (.int (bI (cfB v n pr l)))) M) : Ev 88 (d + 1) mX2_canFollow none 0 [.ref 58, .int (nI l), .int (nI pr), .int (nI n)] [] M P := by
  have h1 := hV.1
  have h9 := sbN_lt ho n l
  have h10 := andn_le (sbN v n l) pr
  have eT : pr / 2 ^ l % 2 = 0 → andn (sbN v n l) pr = 0 → cfB v n pr l = true := fun x y => by
    have e : pr.testBit l = false := by
      rw [Bool.eq_false_iff, ne_eq, ← tb_d]; omega
    unfold cfB
    rw [decide_eq_true y, e]; rfl
  have eF1 : andn (sbN v n l) pr ≠ 0 → cfB v n pr l = false := fun y => by
    unfold cfB
    rw [decide_eq_false y, Bool.and_false]
  have eF2 : pr / 2 ^ l % 2 ≠ 0 → cfB v n pr l = false := fun x => by
    unfold cfB
    rw [(tb_d pr l).mp (by omega)]; rfl
  refine ev_iload_n (i := 2) dX2_canFollow_0 rfl rfl ?_
  refine ev_iload_n (i := 1) dX2_canFollow_1 rfl rfl ?_
  refine ev_ishrN dX2_canFollow_2 (by omega) (by omega) ?_
  refine ev_iconst (v := nI 1) dX2_canFollow_3 rfl ?_
  refine ev_iand1 dX2_canFollow_4 ?_
  refine ev_if_neN 25 dX2_canFollow_5 (by decide) (by omega) (fun b5 => ?_) (fun b5 => ?_)
  · skip
    refine ev_iconst (v := nI 0) dX2_canFollow_25 rfl ?_
    refine ev_reti dX2_canFollow_26 rfl rfl ?_
    exact e_retF (by first | exact eF1 b18 | exact eF2 b5) hp
  · skip
    refine ev_aload_n (i := 0) dX2_canFollow_8 rfl rfl ?_
    refine ev_iload_n (i := 1) dX2_canFollow_9 rfl rfl ?_
    refine ev_iload_n (i := 3) dX2_canFollow_10 rfl rfl ?_
    refine ev_V2 (μ1 := mX2_setBelow) dX2_canFollow_11 sX2_25 okX2_setBelow (by first | omega | decide) (by first | assumption | (simp (disch := omega) only [mu_s, mu_n]; first | assumption | rfl)) (Nat.le_of_ble_eq_true rfl) (Nat.le_of_ble_eq_true rfl) ?_
    refine c_setBelow hV ho (by omega) hn ?_
    refine ev_iload_n (i := 2) dX2_canFollow_14 rfl rfl ?_
    refine ev_iconst (v := (-1)) dX2_canFollow_15 rfl ?_
    refine ev_ixor dX2_canFollow_16 ?_
    refine ev_iand dX2_canFollow_17 ?_
    refine ev_top (i_op (andn_nI _ _)) ?_
    refine ev_if_neN 25 dX2_canFollow_18 (by decide) (by omega) (fun b18 => ?_) (fun b18 => ?_)
    · skip
      refine ev_iconst (v := nI 0) dX2_canFollow_25 rfl ?_
      refine ev_reti dX2_canFollow_26 rfl rfl ?_
      exact e_retF (by first | exact eF1 b18 | exact eF2 b5) hp
    · skip
      refine ev_iconst (v := nI 1) dX2_canFollow_21 rfl ?_
      refine ev_goto 26 dX2_canFollow_22 (by decide) ?_
      refine ev_reti dX2_canFollow_26 rfl rfl ?_
      exact e_retT (eT b5 b18) hp
theorem c_leastNext {pr n : Nat} (hV : kOv M v) (ho : ovOk v) (hpr : pr < 2 ^ 31) (hn : n ≤ 6) (hp : P (some (.int (oI (lf (cfB v n pr) n 0)))) M) : Ev 88 (d + 2) mX2_leastNext none 0 [.ref 58, .int (nI pr), .int (nI n), .null] [] M P := by
  have h1 := hV.1
  have lp : ∀ (j c : Nat), c + j = n → lf (cfB v n pr) n 0 = lf (cfB v n pr) j c → Ev 88 (d + 2) mX2_leastNext none 2 [.ref 58, .int (nI pr), .int (nI n), .int (nI c)] [] M P := by
    intro j
    induction j with
    | zero =>
      intro c hc e
      obtain rfl : c = n := by omega
      rw [e] at hp
      refine ev_iload_n (i := 3) dX2_leastNext_2 rfl rfl ?_
      refine ev_iload_n (i := 2) dX2_leastNext_3 rfl rfl ?_
      refine ev_icmp_geN 25 dX2_leastNext_4 (by decide) (by omega) (by omega) (fun b4 => ?_) (fun b4 => by exfalso; omega)
      refine ev_bipush (v := (-9)) dX2_leastNext_25 rfl ?_
      refine ev_reti dX2_leastNext_27 rfl rfl ?_
      exact hp
    | succ j ih =>
      intro c hc e
      refine ev_iload_n (i := 3) dX2_leastNext_2 rfl rfl ?_
      refine ev_iload_n (i := 2) dX2_leastNext_3 rfl rfl ?_
      refine ev_icmp_geN 25 dX2_leastNext_4 (by decide) (by omega) (by omega) (fun b4 => by exfalso; omega) (fun b4 => ?_)
      refine ev_aload_n (i := 0) dX2_leastNext_7 rfl rfl ?_
      refine ev_iload_n (i := 3) dX2_leastNext_8 rfl rfl ?_
      refine ev_iload_n (i := 1) dX2_leastNext_9 rfl rfl ?_
      refine ev_iload_n (i := 2) dX2_leastNext_10 rfl rfl ?_
      refine ev_V3 (μ1 := mX2_canFollow) dX2_leastNext_11 sX2_34 okX2_canFollow (by first | omega | decide) (by first | assumption | (simp (disch := omega) only [mu_s, mu_n]; first | assumption | rfl)) (Nat.le_of_ble_eq_true rfl) (Nat.le_of_ble_eq_true rfl) ?_
      refine c_canFollow hV ho (by omega) hpr (by omega) ?_
      refine ev_if_eqB 19 dX2_leastNext_14 (by decide) (fun b14 => ?_) (fun b14 => ?_)
      · skip
        refine ev_incN dX2_leastNext_19 (by rfl) (by decide) rfl ?_
        refine ev_goto 2 dX2_leastNext_22 (by decide) ?_
        exact ih _ (by omega) (e.trans (lf_f b14))
      · skip
        refine ev_iload_n (i := 3) dX2_leastNext_17 rfl rfl ?_
        refine ev_reti dX2_leastNext_18 rfl rfl ?_
        rw [e, lf_t b14] at hp
        exact hp
  refine ev_iconst (v := nI 0) dX2_leastNext_0 rfl ?_
  refine ev_istore_n (i := 3) dX2_leastNext_1 rfl (by decide) rfl ?_
  exact lp n 0 (by omega) rfl
theorem c_firstOrder {n : Nat} (hV : kOv M v) (ho : ovOk v) (hn : n ≤ 6) (hp : P (some (.int (oI (foN v n n 0 0)))) M) : Ev 88 (d + 3) mX2_firstOrder none 0 [.ref 58, .int (nI n), .null, .null, .null, .null] [] M P := by
  have h1 := hV.1
  have lp : ∀ (j c pr fg : Nat) (lx : Value), c + j = n → pr < 64 → foN v n n 0 0 = foN v n j pr fg → Ev 88 (d + 3) mX2_firstOrder none 7 [.ref 58, .int (nI n), .int (nI pr), .int (nI fg), .int (nI c), lx] [] M P := by
    intro j
    induction j with
    | zero =>
      intro c pr fg lx hc h6 e
      obtain rfl : c = n := by omega
      rw [e] at hp
      refine ev_iload (i := 4) dX2_firstOrder_7 rfl ?_
      refine ev_iload_n (i := 1) dX2_firstOrder_9 rfl rfl ?_
      refine ev_icmp_geN 54 dX2_firstOrder_10 (by decide) (by omega) (by omega) (fun b10 => ?_) (fun b10 => by exfalso; omega)
      refine ev_iload_n (i := 3) dX2_firstOrder_54 rfl rfl ?_
      refine ev_reti dX2_firstOrder_55 rfl rfl ?_
      exact hp
    | succ j ih =>
      intro c pr fg lx hc h6 e
      cases hq : lf (cfB v n pr) n 0 with
      | none =>
        have e2 : foN v n (j + 1) pr fg = none := by unfold foN; rw [hq]
        rw [e, e2] at hp
        refine ev_iload (i := 4) dX2_firstOrder_7 rfl ?_
        refine ev_iload_n (i := 1) dX2_firstOrder_9 rfl rfl ?_
        refine ev_icmp_geN 54 dX2_firstOrder_10 (by decide) (by omega) (by omega) (fun b10 => by exfalso; omega) (fun b10 => ?_)
        refine ev_aload_n (i := 0) dX2_firstOrder_13 rfl rfl ?_
        refine ev_iload_n (i := 2) dX2_firstOrder_14 rfl rfl ?_
        refine ev_iload_n (i := 1) dX2_firstOrder_15 rfl rfl ?_
        refine ev_V2 (μ1 := mX2_leastNext) dX2_firstOrder_16 sX2_38 okX2_leastNext (by first | omega | decide) (by first | assumption | (simp (disch := omega) only [mu_s, mu_n]; first | assumption | rfl)) (Nat.le_of_ble_eq_true rfl) (Nat.le_of_ble_eq_true rfl) ?_
        refine c_leastNext hV ho (by omega) (by omega) ?_
        rw [hq]
        refine ev_istore (i := 5) dX2_firstOrder_19 (by decide) rfl ?_
        refine ev_iload (i := 5) dX2_firstOrder_21 rfl ?_
        refine ev_bipush (v := (-9)) dX2_firstOrder_23 rfl ?_
        refine ev_icmp_ne 31 dX2_firstOrder_25 (by decide) (fun b25 => absurd rfl b25) (fun b25 => ?_)
        refine ev_bipush (v := (-9)) dX2_firstOrder_28 rfl ?_
        refine ev_reti dX2_firstOrder_30 rfl rfl ?_
        exact hp
      | some l =>
        have e2 : foN v n (j + 1) pr fg = foN v n j (pr ||| 2 ^ l) (10 * fg + l + 1) := by
          show (match lf (cfB v n pr) n 0 with | none => none | some l => foN v n j (pr ||| 2 ^ l) (10 * fg + l + 1)) = _
          rw [hq]
        obtain ⟨-, hl, -⟩ := lf_some hq
        have hx : pr ||| 2 ^ l < 64 := Nat.or_lt_two_pow (n := 6) h6 (Nat.pow_lt_pow_right (by decide) (by omega))
        have h9 : ¬ nI l = (-9) := fun z => by
          have h2 : (nI l).toInt = (-9 : Int32).toInt := congrArg Int32.toInt z
          rw [nI_toInt (by omega)] at h2
          exact absurd h2 (by rw [show (-9 : Int32).toInt = -9 from rfl]; omega)
        refine ev_iload (i := 4) dX2_firstOrder_7 rfl ?_
        refine ev_iload_n (i := 1) dX2_firstOrder_9 rfl rfl ?_
        refine ev_icmp_geN 54 dX2_firstOrder_10 (by decide) (by omega) (by omega) (fun b10 => by exfalso; omega) (fun b10 => ?_)
        refine ev_aload_n (i := 0) dX2_firstOrder_13 rfl rfl ?_
        refine ev_iload_n (i := 2) dX2_firstOrder_14 rfl rfl ?_
        refine ev_iload_n (i := 1) dX2_firstOrder_15 rfl rfl ?_
        refine ev_V2 (μ1 := mX2_leastNext) dX2_firstOrder_16 sX2_38 okX2_leastNext (by first | omega | decide) (by first | assumption | (simp (disch := omega) only [mu_s, mu_n]; first | assumption | rfl)) (Nat.le_of_ble_eq_true rfl) (Nat.le_of_ble_eq_true rfl) ?_
        refine c_leastNext hV ho (by omega) (by omega) ?_
        rw [hq]
        show Ev _ _ _ _ _ _ (.int (nI l) :: []) _ _
        refine ev_istore (i := 5) dX2_firstOrder_19 (by decide) rfl ?_
        refine ev_iload (i := 5) dX2_firstOrder_21 rfl ?_
        refine ev_bipush (v := (-9)) dX2_firstOrder_23 rfl ?_
        refine ev_icmp_ne 31 dX2_firstOrder_25 (by decide) (fun b25 => ?_) (fun b25 => absurd b25 h9)
        refine ev_iload_n (i := 2) dX2_firstOrder_31 rfl rfl ?_
        refine ev_iconst (v := nI 1) dX2_firstOrder_32 rfl ?_
        refine ev_iload (i := 5) dX2_firstOrder_33 rfl ?_
        refine ev_ishl1 dX2_firstOrder_35 (by omega) ?_
        refine ev_iorN dX2_firstOrder_36 ?_
        refine ev_istore_n (i := 2) dX2_firstOrder_37 rfl (by decide) rfl ?_
        refine ev_bipush (v := nI 10) dX2_firstOrder_38 rfl ?_
        refine ev_iload_n (i := 3) dX2_firstOrder_40 rfl rfl ?_
        refine ev_imulN dX2_firstOrder_41 ?_
        refine ev_iload (i := 5) dX2_firstOrder_42 rfl ?_
        refine ev_iaddN dX2_firstOrder_44 ?_
        refine ev_iconst (v := nI 1) dX2_firstOrder_45 rfl ?_
        refine ev_iaddN dX2_firstOrder_46 ?_
        refine ev_istore_n (i := 3) dX2_firstOrder_47 rfl (by decide) rfl ?_
        refine ev_incN dX2_firstOrder_48 (by rfl) (by decide) rfl ?_
        refine ev_goto 7 dX2_firstOrder_51 (by decide) ?_
        exact ih _ _ _ _ (by omega) hx (e.trans e2)
  refine ev_iconst (v := nI 0) dX2_firstOrder_0 rfl ?_
  refine ev_istore_n (i := 2) dX2_firstOrder_1 rfl (by decide) rfl ?_
  refine ev_iconst (v := nI 0) dX2_firstOrder_2 rfl ?_
  refine ev_istore_n (i := 3) dX2_firstOrder_3 rfl (by decide) rfl ?_
  refine ev_iconst (v := nI 0) dX2_firstOrder_4 rfl ?_
  refine ev_istore (i := 4) dX2_firstOrder_5 (by decide) rfl ?_
  exact lp n 0 0 0 .null (by omega) (by decide) rfl
end OVE
