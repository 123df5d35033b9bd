/-! ===== the model: its memory, its small methods ===== -/
def gF (f : Nat → Int32) (p : pg) : Prop := (∀ c, c < 12 → f c = nI (p.1 c)) ∧ (∀ c, c < 12 → f (12 + c) = tI (p.2.1 c)) ∧ f 24 = p.2.2
def kG (M : mM) (i : Nat) (p : pg) : Prop := ∃ f, M i = .inl (0, 25, .inl f) ∧ gF f p
def kBk (M : mM) (a : List pg) : Prop := ∃ f, M 81 = .inl (0, 350, .inl f) ∧ ∀ i p, a[i]? = some p → gF (fun j => f (25 * i + j)) p
def kKp (M : mM) (sl : Nat → Option pg) : Prop := ∃ f b, M 82 = .inl (0, 50, .inl f) ∧ M 83 = .inl (1, 2, .inl b) ∧ (∀ i, i < 2 → b i = bI (sl i).isSome) ∧ ∀ i, i < 2 → ∀ p, sl i = some p → gF (fun j => f (25 * i + j)) p
def kO (M : mM) (e : Nat → Int32) (ts lc ac vc : Nat) (sd : Int64) : Prop := M 72 = .inr (8, [.int (e 0), .ref 73, .int (nI ts), .int (e 1), .int (nI lc), .ref 74, .ref 75, .ref 76, .ref 77, .int (e 2), .ref 78, .ref 79, .ref 80, .ref 81, .int (nI ac), .ref 82, .ref 83, .int (nI vc), .ref 84, .ref 85, .long sd, .int (e 3), .int (e 4), .int (e 5), .int (e 6), .ref 86, .ref 87])
def kML (M : mM) (l : lt) : Prop := arr M 74 6 l.1 l.2.1 ∧ arr M 75 6 l.1 l.2.2.1 ∧ arr M 76 6 l.1 l.2.2.2.1 ∧ arr M 77 6 l.1 l.2.2.2.2
def kX (M : mM) : Prop := (∃ f, M 78 = .inl (0, 24, .inl f)) ∧ (∃ f, M 86 = .inl (0, 64, .inl f)) ∧ ∃ f, M 87 = .inl (0, 6, .inl f)
def kMV (M : mM) (v : ov) : Prop := arr M 84 6 v.1 v.2.1 ∧ arr M 85 6 v.1 v.2.2
def kM (M : mM) (s : cs) : Prop := (∃ e, kO M e s.1.1 s.2.1.1 s.2.2.2.1.length s.2.2.2.2.2.1.1 s.2.2.2.2.2.2) ∧ arr M 73 40 s.1.1 s.1.2 ∧ kML M s.2.1 ∧ kG M 79 s.2.2.1 ∧ (∃ q, kG M 80 q) ∧ kBk M s.2.2.2.1 ∧ kKp M s.2.2.2.2.1 ∧ kMV M s.2.2.2.2.2.1 ∧ kX M
theorem kG_ag {M M1 : mM} {i a b : Nat} {p : pg} (h : kG M i p) (hg : ag M M1 a b) (hx : b ≤ i ∨ i + 1 ≤ a) : kG M1 i p := by
  obtain ⟨f, h1, h2⟩ := h
  exact ⟨f, (hg _ (by omega)).trans h1, h2⟩
theorem kBk_ag {M M1 : mM} {a b : Nat} {l : List pg} (h : kBk M l) (hg : ag M M1 a b) (hx : b ≤ 81 ∨ 82 ≤ a) : kBk M1 l := by
  obtain ⟨f, h1, h2⟩ := h
  exact ⟨f, (hg _ (by omega)).trans h1, h2⟩
theorem kKp_ag {M M1 : mM} {a b : Nat} {sl : Nat → Option pg} (h : kKp M sl) (hg : ag M M1 a b) (hx : b ≤ 82 ∨ 84 ≤ a) : kKp M1 sl := by
  obtain ⟨f, g, h1, h2, h3⟩ := h
  exact ⟨f, g, (hg _ (by omega)).trans h1, (hg _ (by omega)).trans h2, h3⟩
theorem kO_ag {M M1 : mM} {a b : Nat} {e : Nat → Int32} {ts lc ac vc : Nat} {sd : Int64} (h : kO M e ts lc ac vc sd) (hg : ag M M1 a b) (hx : b ≤ 72 ∨ 73 ≤ a) : kO M1 e ts lc ac vc sd := (hg _ (by omega)).trans h
theorem kML_ag {M M1 : mM} {a b : Nat} {l : lt} (h : kML M l) (hg : ag M M1 a b) (hx : b ≤ 74 ∨ 78 ≤ a) : kML M1 l := ⟨arr_ag h.1 hg (by omega), arr_ag h.2.1 hg (by omega), arr_ag h.2.2.1 hg (by omega), arr_ag h.2.2.2 hg (by omega)⟩
theorem kMV_ag {M M1 : mM} {a b : Nat} {v : ov} (h : kMV M v) (hg : ag M M1 a b) (hx : b ≤ 84 ∨ 86 ≤ a) : kMV M1 v := ⟨arr_ag h.1 hg (by omega), arr_ag h.2 hg (by omega)⟩
theorem kX_ag {M M1 : mM} {a b : Nat} (h : kX M) (hg : ag M M1 a b) (hx : b ≤ 78 ∨ (79 ≤ a ∧ b ≤ 86) ∨ 88 ≤ a) : kX M1 := by
  obtain ⟨⟨f, h1⟩, ⟨g, h2⟩, k, h3⟩ := h
  exact ⟨⟨f, (hg _ (by omega)).trans h1⟩, ⟨g, (hg _ (by omega)).trans h2⟩, k, (hg _ (by omega)).trans h3⟩
/-- the parts of a memory, each where the cells written do not reach it -/
theorem kM_ag {M M1 : mM} {s : cs} (h : kM M s) (hg : ag M M1 0 72) : kM M1 s := by
  obtain ⟨⟨e, h1⟩, h2, h3, h4, ⟨q, h5⟩, h6, h7, h8, h9⟩ := h
  exact ⟨⟨e, kO_ag h1 hg (by omega)⟩, arr_ag h2 hg (by omega), kML_ag h3 hg (by omega), kG_ag h4 hg (by omega), ⟨q, kG_ag h5 hg (by omega)⟩, kBk_ag h6 hg (by omega), kKp_ag h7 hg (by omega), kMV_ag h8 hg (by omega), kX_ag h9 hg (by omega)⟩
theorem kC_ag {M M1 : mM} {s : cs} (h : kC M s) (hg : ag M M1 72 88) : kC M1 s := by
  obtain ⟨h1, h2, h3, h4, ⟨p0, h5⟩, h6, h7, h8, o, h9⟩ := h
  exact ⟨(hg 0 (by omega)).trans h1, kTx_ag h2 hg (by omega), kLt_ag h3 hg (by omega), kP_ag h4 hg (by omega), ⟨p0, kP_ag h5 hg (by omega)⟩, kAc_ag h6 hg (by omega), kOv_ag h7 hg (by omega), kSl_ag h8 hg (by omega), o, kTm_ag h9 hg (by omega)⟩
/-- pages under way -/
def mix (c : Nat) (q p : pg) : pg := (fun i => if i < c then q.1 i else p.1 i, fun i => if i < c then q.2.1 i else p.2.1 i, p.2.2)
theorem gF_0 {f : Nat → Int32} {q p : pg} (h : gF f p) : gF f (mix 0 q p) := h
theorem gF_e {f : Nat → Int32} {q p : pg} (h : gF f (mix 12 q p)) (hd : q.2.2 = p.2.2) : gF f q := by
  obtain ⟨h1, h2, h3⟩ := h
  exact ⟨fun c hc => by rw [h1 c hc]; show nI (if c < 12 then _ else _) = _; rw [if_pos hc], fun c hc => by rw [h2 c hc]; show tI (if c < 12 then _ else _) = _; rw [if_pos hc], h3.trans hd.symm⟩
theorem gF_r {f : Nat → Int32} {q p : pg} {c a : Nat} (h : gF f (mix c q p)) (hc : c < 12) (ha : a = c) : f a = nI (p.1 c) := by
  rw [ha, h.1 c hc]; show nI (if c < c then _ else _) = _; rw [if_neg (by omega)]
theorem gF_rt {f : Nat → Int32} {q p : pg} {c a : Nat} (h : gF f (mix c q p)) (hc : c < 12) (ha : a = 12 + c) : f a = tI (p.2.1 c) := by
  rw [ha, h.2.1 c hc]; show tI (if c < c then _ else _) = _; rw [if_neg (by omega)]
theorem gF_s {f : Nat → Int32} {q p : pg} {c a b : Nat} {v u : Int32} (h : gF f (mix c q p)) (hc : c < 12) (ha : a = c) (hb : b = 12 + c) (hv : v = nI (q.1 c)) (hu : u = tI (q.2.1 c)) : gF (upd (upd f a v) b u) (mix (c + 1) q p) := by
  subst ha; subst hb
  obtain ⟨h1, h2, h3⟩ := h
  refine ⟨fun i hi => ?_, fun i hi => ?_, ?_⟩
  · unfold upd
    rw [if_neg (by omega)]
    show _ = nI (if i < a + 1 then q.1 i else p.1 i)
    by_cases z : i = a
    · rw [if_pos z, if_pos (by omega), hv, z]
    · rw [if_neg z, h1 i hi]
      show nI (if i < a then q.1 i else p.1 i) = _
      have : (i < a + 1) ↔ i < a := by omega
      simp only [this]
  · unfold upd
    show _ = tI (if i < a + 1 then q.2.1 i else p.2.1 i)
    by_cases z : i = a
    · rw [if_pos (by omega), if_pos (by omega), hu, z]
    · rw [if_neg (by omega), if_neg (by omega), h2 i hi]
      show tI (if i < a then q.2.1 i else p.2.1 i) = _
      have : (i < a + 1) ↔ i < a := by omega
      simp only [this]
  · unfold upd
    rw [if_neg (by omega), if_neg (by omega)]
    exact h3
theorem gF_k {f : Nat → Int32} {q p : pg} {c : Nat} (h : gF f (mix c q p)) (hv : q.1 c = p.1 c) (hu : q.2.1 c = p.2.1 c) : gF f (mix (c + 1) q p) := by
  obtain ⟨h1, h2, h3⟩ := h
  refine ⟨fun i hi => ?_, fun i hi => ?_, h3⟩
  · rw [h1 i hi]
    show nI (if i < c then q.1 i else p.1 i) = nI (if i < c + 1 then q.1 i else p.1 i)
    by_cases z : i = c
    · subst z; rw [if_neg (by omega), if_pos (by omega), hv]
    · have : (i < c + 1) ↔ i < c := by omega
      simp only [this]
  · rw [h2 i hi]
    show tI (if i < c then q.2.1 i else p.2.1 i) = tI (if i < c + 1 then q.2.1 i else p.2.1 i)
    by_cases z : i = c
    · subst z; rw [if_neg (by omega), if_pos (by omega), hu]
    · have : (i < c + 1) ↔ i < c := by omega
      simp only [this]
theorem upd_a {f : Nat → Int32} {a b : Nat} {v : Int32} (h : b = a) : upd f a v b = v := if_pos h
theorem upd_b {f : Nat → Int32} {a b : Nat} {v : Int32} (h : b ≠ a) : upd f a v b = f b := if_neg h
theorem in_t {v a b : Int64} (h1 : ¬ lg_cmp v a < 0) (h2 : ¬ 0 < lg_cmp v b) : (decide (a ≤ v) && decide (v ≤ b)) = true := by
  rw [lg_cmp_lt] at h1
  rw [lg_cmp_gt] at h2
  rw [decide_eq_true (Int64.not_lt.mp h1), decide_eq_true (Int64.not_lt.mp h2)]
  rfl
theorem in_f1 {v a b : Int64} (h1 : lg_cmp v a < 0) : (decide (a ≤ v) && decide (v ≤ b)) = false := by
  rw [lg_cmp_lt] at h1
  rw [decide_eq_false (Int64.not_le.mpr h1)]
  rfl
theorem in_f2 {v a b : Int64} (h1 : 0 < lg_cmp v b) : (decide (a ≤ v) && decide (v ≤ b)) = false := by
  rw [lg_cmp_gt] at h1
  rw [decide_eq_false (Int64.not_le.mpr h1), Bool.and_false]
theorem in_r {x : Int32} {b : Int64} {n : Nat} (h : b.toInt = (n : Int) - 1) : (decide ((0 : Int64) ≤ x.toInt64) && decide (x.toInt64 ≤ b)) = inR x n := by
  unfold inR
  rw [Bool.eq_iff_iff]
  simp only [Bool.and_eq_true, decide_eq_true_eq, Int64.le_iff_toInt_le, Int32.toInt_toInt64, h, show (0 : Int64).toInt = 0 from rfl]
  omega
theorem in_l : ∀ n, n < 7 → ((nI n - nI 1).toInt64).toInt = (n : Int) - 1 := by decide +kernel
section MDL
variable {d : Nat} {M : mM} {P : Option Value → mM → Prop} {e : Nat → Int32} {ts lc ac vc : Nat} {sd : Int64} {l : lt} {p : pg}
theorem c_in {v a b : Int64} (hp : P (some (.int (bI (decide (a ≤ v) && decide (v ≤ b))))) M) : Ev 88 d mX8_in none 0 [.long v, .null, .long a, .null, .long b, .null] [] M P := by
  refine ev_lload_n (i := 0) dX8_in_0 rfl rfl ?_
  refine ev_lload_n (i := 2) dX8_in_1 rfl rfl ?_
  refine ev_lcmp dX8_in_2 ?_
  refine ev_if_lt 17 dX8_in_3 (by decide) (fun b3 => ?_) (fun b3 => ?_)
  · skip
    refine ev_iconst (v := nI 0) dX8_in_17 rfl ?_
    refine ev_reti dX8_in_18 rfl rfl ?_
    exact e_retF ((by first | exact in_f1 b3 | exact in_f2 b10)) hp
  · skip
    refine ev_lload_n (i := 0) dX8_in_6 rfl rfl ?_
    refine ev_lload (i := 4) dX8_in_7 rfl ?_
    refine ev_lcmp dX8_in_9 ?_
    refine ev_if_gt 17 dX8_in_10 (by decide) (fun b10 => ?_) (fun b10 => ?_)
    · skip
      refine ev_iconst (v := nI 0) dX8_in_17 rfl ?_
      refine ev_reti dX8_in_18 rfl rfl ?_
      exact e_retF ((by first | exact in_f1 b3 | exact in_f2 b10)) hp
    · skip
      refine ev_iconst (v := nI 1) dX8_in_13 rfl ?_
      refine ev_goto 18 dX8_in_14 (by decide) ?_
      refine ev_reti dX8_in_18 rfl rfl ?_
      exact e_retT (in_t b3 b10) hp
theorem c_noCell {x : Int32} (hp : P (some (.int (bI (!inR x 12)))) M) : Ev 88 (d + 1) mX8_noCell none 0 [.int x] [] M P := by
  refine ev_iload_n (i := 0) dX8_noCell_0 rfl rfl ?_
  refine ev_i2l dX8_noCell_1 rfl ?_
  refine ev_lconst dX8_noCell_2 rfl ?_
  refine ev_ldc2_w dX8_noCell_3 kX8_71 ?_
  refine ev_S3 (μ1 := mX8_in) dX8_noCell_6 sX8_67 okX8_in (Nat.le_of_ble_eq_true rfl) (Nat.le_of_ble_eq_true rfl) ?_
  refine c_in ?_
  refine ev_top (i_op (congrArg bI (in_r (n := 12) rfl))) ?_
  refine ev_if_neB 16 dX8_noCell_9 (by decide) (fun b9 => ?_) (fun b9 => ?_)
  · skip
    refine ev_iconst (v := nI 0) dX8_noCell_16 rfl ?_
    refine ev_reti dX8_noCell_17 rfl rfl ?_
    exact e_retF ((by rw [b9]; rfl)) hp
  · skip
    refine ev_iconst (v := nI 1) dX8_noCell_12 rfl ?_
    refine ev_goto 17 dX8_noCell_13 (by decide) ?_
    refine ev_reti dX8_noCell_17 rfl rfl ?_
    exact e_retT ((by rw [b9]; rfl)) hp
theorem c_noLetter {x : Int32} (x0 : kO M e ts lc ac vc sd) (h6 : lc ≤ 6) (hp : P (some (.int (bI (!inR x lc)))) M) : Ev 88 (d + 1) mX8_noLetter none 0 [.ref 72, .int x] [] M P := by
  unfold kO at x0
  refine ev_iload_n (i := 1) dX8_noLetter_0 rfl rfl ?_
  refine ev_i2l dX8_noLetter_1 rfl ?_
  refine ev_lconst dX8_noLetter_2 rfl ?_
  refine ev_aload_n (i := 0) dX8_noLetter_3 rfl rfl ?_
  refine ev_getfield dX8_noLetter_4 fX8_64 (by first | omega | decide) (by first | assumption | (simp (disch := omega) only [mu_s, mu_n]; first | assumption | rfl)) (by rfl) ?_
  refine ev_iconst (v := nI 1) dX8_noLetter_7 rfl ?_
  refine ev_isub dX8_noLetter_8 ?_
  refine ev_i2l dX8_noLetter_9 rfl ?_
  refine ev_S3 (μ1 := mX8_in) dX8_noLetter_10 sX8_67 okX8_in (Nat.le_of_ble_eq_true rfl) (Nat.le_of_ble_eq_true rfl) ?_
  refine c_in ?_
  refine ev_top (i_op (congrArg bI (in_r (n := lc) (in_l lc (by omega))))) ?_
  refine ev_if_neB 20 dX8_noLetter_13 (by decide) (fun b13 => ?_) (fun b13 => ?_)
  · skip
    refine ev_iconst (v := nI 0) dX8_noLetter_20 rfl ?_
    refine ev_reti dX8_noLetter_21 rfl rfl ?_
    exact e_retF ((by rw [b13]; rfl)) hp
  · skip
    refine ev_iconst (v := nI 1) dX8_noLetter_16 rfl ?_
    refine ev_goto 21 dX8_noLetter_17 (by decide) ?_
    refine ev_reti dX8_noLetter_21 rfl rfl ?_
    exact e_retT ((by rw [b13]; rfl)) hp
theorem c_mHas {n k : Nat} (hn : n < 2 ^ 31) (hk : k < 32) (hp : P (some (.int (bI (n.testBit k)))) M) : Ev 88 d mX8_has none 0 [.int (nI n), .int (nI k)] [] M P := by
  refine ev_iload_n (i := 0) dX8_has_0 rfl rfl ?_
  refine ev_iload_n (i := 1) dX8_has_1 rfl rfl ?_
  refine ev_ishrN dX8_has_2 (by omega) (by omega) ?_
  refine ev_iconst (v := nI 1) dX8_has_3 rfl ?_
  refine ev_iand1 dX8_has_4 ?_
  refine ev_iconst (v := nI 1) dX8_has_5 rfl ?_
  refine ev_icmp_neN 13 dX8_has_6 (by decide) (by omega) (by omega) (fun b6 => ?_) (fun b6 => ?_)
  · skip
    refine ev_iconst (v := nI 0) dX8_has_13 rfl ?_
    refine ev_reti dX8_has_14 rfl rfl ?_
    exact e_retF ((by rw [Bool.eq_false_iff]; exact fun z => b6 ((tb_d n k).mpr z))) hp
  · skip
    refine ev_iconst (v := nI 1) dX8_has_9 rfl ?_
    refine ev_goto 14 dX8_has_10 (by decide) ?_
    refine ev_reti dX8_has_14 rfl rfl ?_
    exact e_retT ((tb_d n k).mp b6) hp
theorem c_many {n : Nat} (hn : n < 2 ^ 31) (hp : P (some (.int (nI (cnt n)))) M) : Ev 88 d mX8_many none 0 [.int (nI n), .null, .null] [] M P := by
  have lp : ∀ (j c : Nat), c + j = 12 → Ev 88 d mX8_many none 4 [.int (nI n), .int (nI (sN (fun k => n / 2 ^ k % 2) c)), .int (nI c)] [] M P := by
    intro j
    induction j with
    | zero =>
      intro c hc
      obtain rfl : c = 12 := by omega
      refine ev_iload_n (i := 2) dX8_many_4 rfl rfl ?_
      refine ev_bipush (v := nI 12) dX8_many_5 rfl ?_
      refine ev_icmp_geN 24 dX8_many_7 (by decide) (by omega) (by omega) (fun b7 => ?_) (fun b7 => by exfalso; omega)
      refine ev_iload_n (i := 1) dX8_many_24 rfl rfl ?_
      refine ev_reti dX8_many_25 rfl rfl ?_
      exact hp
    | succ j ih =>
      intro c hc
      refine ev_iload_n (i := 2) dX8_many_4 rfl rfl ?_
      refine ev_bipush (v := nI 12) dX8_many_5 rfl ?_
      refine ev_icmp_geN 24 dX8_many_7 (by decide) (by omega) (by omega) (fun b7 => by exfalso; omega) (fun b7 => ?_)
      refine ev_iload_n (i := 1) dX8_many_10 rfl rfl ?_
      refine ev_iload_n (i := 0) dX8_many_11 rfl rfl ?_
      refine ev_iload_n (i := 2) dX8_many_12 rfl rfl ?_
      refine ev_ishrN dX8_many_13 (by omega) (by omega) ?_
      refine ev_iconst (v := nI 1) dX8_many_14 rfl ?_
      refine ev_iand1 dX8_many_15 ?_
      refine ev_iaddN dX8_many_16 ?_
      refine ev_istore_n (i := 1) dX8_many_17 rfl (by decide) rfl ?_
      refine ev_incN dX8_many_18 (by rfl) (by decide) rfl ?_
      refine ev_goto 4 dX8_many_21 (by decide) ?_
      exact ih (c + 1) (by omega)
  refine ev_iconst (v := nI 0) dX8_many_0 rfl ?_
  refine ev_istore_n (i := 1) dX8_many_1 rfl (by decide) rfl ?_
  refine ev_iconst (v := nI 0) dX8_many_2 rfl ?_
  refine ev_istore_n (i := 2) dX8_many_3 rfl (by decide) rfl ?_
  exact lp 12 0 rfl
theorem c_mClean {i : Nat} (hi : i < 88) (h : kG M i p) (hp : ∀ M1, ag M M1 i (i + 1) → kG M1 i (pgNew p.2.2) → P none M1) : Ev 88 d mX8_clean none 0 [.ref i, .null] [] M P := by
  obtain ⟨f, h1, h2⟩ := h
  have lp : ∀ (j c : Nat) (M1 : mM) (f1 : Nat → Int32), c + j = 12 → ag M M1 i (i + 1) → M1 i = .inl (0, 25, .inl f1) → gF f1 (mix c (pgNew p.2.2) p) → Ev 88 d mX8_clean none 2 [.ref i, .int (nI c)] [] M1 P := by
    intro j
    induction j with
    | zero =>
      intro c M1 f1 hc ha x1 g1
      obtain rfl : c = 12 := by omega
      refine ev_iload_n (i := 1) dX8_clean_2 rfl rfl ?_
      refine ev_bipush (v := nI 12) dX8_clean_3 rfl ?_
      refine ev_icmp_geN 28 dX8_clean_5 (by decide) (by omega) (by omega) (fun b5 => ?_) (fun b5 => by exfalso; omega)
      refine ev_ret0 dX8_clean_28 rfl ?_
      exact hp M1 ha ⟨f1, x1, gF_e g1 rfl⟩
    | succ j ih =>
      intro c M1 f1 hc ha x1 g1
      refine ev_iload_n (i := 1) dX8_clean_2 rfl rfl ?_
      refine ev_bipush (v := nI 12) dX8_clean_3 rfl ?_
      refine ev_icmp_geN 28 dX8_clean_5 (by decide) (by omega) (by omega) (fun b5 => by exfalso; omega) (fun b5 => ?_)
      refine ev_aload_n (i := 0) dX8_clean_8 rfl rfl ?_
      refine ev_iconst (v := nI 0) dX8_clean_9 rfl ?_
      refine ev_iload_n (i := 1) dX8_clean_10 rfl rfl ?_
      refine ev_iaddN dX8_clean_11 ?_
      refine ev_iconst (v := nI 0) dX8_clean_12 rfl ?_
      refine ev_iastoreN dX8_clean_13 (by first | omega | decide) (by first | assumption | (simp (disch := omega) only [mu_s, mu_n]; first | assumption | rfl)) (by omega) (by decide) ?_
      refine ev_aload_n (i := 0) dX8_clean_14 rfl rfl ?_
      refine ev_bipush (v := nI 12) dX8_clean_15 rfl ?_
      refine ev_iload_n (i := 1) dX8_clean_17 rfl rfl ?_
      refine ev_iaddN dX8_clean_18 ?_
      refine ev_bipush (v := (-9)) dX8_clean_19 rfl ?_
      refine ev_iastoreN dX8_clean_21 (by first | omega | decide) (by first | assumption | (simp (disch := omega) only [mu_s, mu_n]; first | assumption | rfl)) (by omega) (by decide) ?_
      refine ev_incN dX8_clean_22 (by rfl) (by decide) rfl ?_
      refine ev_goto 2 dX8_clean_25 (by decide) ?_
      exact ih (c + 1) _ _ (by omega) (ag_mu (ag_mu ha (by omega) (by omega)) (by omega) (by omega)) (mu_s _ _ _) (gF_s g1 (by omega) (Nat.zero_add c) rfl rfl rfl)
  refine ev_iconst (v := nI 0) dX8_clean_0 rfl ?_
  refine ev_istore_n (i := 1) dX8_clean_1 rfl (by decide) rfl ?_
  exact lp 12 0 M f rfl (ag_rf M _ _) h1 (gF_0 h2)
theorem c_mGoDay {i : Nat} (hi : i < 88) (h : kG M i p) (ho : pgOk p) (hp : ∀ M1, ag M M1 i (i + 1) → kG M1 i (pgDay p) → P none M1) : Ev 88 d mX8_goDay none 0 [.ref i, .null] [] M P := by
  obtain ⟨f, h1, h2⟩ := h
  have lp : ∀ (j c : Nat) (M1 : mM) (f1 : Nat → Int32), c + j = 12 → ag M M1 i (i + 1) → M1 i = .inl (0, 25, .inl f1) → gF f1 (mix c (pgDay p) p) → Ev 88 d mX8_goDay none 2 [.ref i, .int (nI c)] [] M1 P := by
    intro j
    induction j with
    | zero =>
      intro c M1 f1 hc ha x1 g1
      obtain rfl : c = 12 := by omega
      refine ev_iload_n (i := 1) dX8_goDay_2 rfl rfl ?_
      refine ev_bipush (v := nI 12) dX8_goDay_3 rfl ?_
      refine ev_icmp_geN 60 dX8_goDay_5 (by decide) (by omega) (by omega) (fun b5 => ?_) (fun b5 => by exfalso; omega)
      refine ev_aload_n (i := 0) dX8_goDay_60 rfl rfl ?_
      refine ev_bipush (v := nI 24) dX8_goDay_61 rfl ?_
      refine ev_dup2 dX8_goDay_63 rfl rfl ?_
      refine ev_ialoadN dX8_goDay_64 (by first | omega | decide) (by first | assumption | (simp (disch := omega) only [mu_s, mu_n]; first | assumption | rfl)) (by omega) (by decide) ?_
      refine ev_iconst (v := nI 1) dX8_goDay_65 rfl ?_
      refine ev_iadd dX8_goDay_66 ?_
      refine ev_iastoreN dX8_goDay_67 (by first | omega | decide) (by first | assumption | (simp (disch := omega) only [mu_s, mu_n]; first | assumption | rfl)) (by omega) (by decide) ?_
      refine ev_ret0 dX8_goDay_68 rfl ?_
      refine hp _ (ag_mu ha (by omega) (by omega)) ⟨_, mu_s _ _ _, fun c hc => ?_, fun c hc => ?_, ?_⟩
      · rw [upd_b (by omega), g1.1 c hc]; show nI (if c < 12 then _ else _) = _; rw [if_pos hc]
      · rw [upd_b (by omega), g1.2.1 c hc]; show tI (if c < 12 then _ else _) = _; rw [if_pos hc]
      · rw [upd_a rfl, g1.2.2]; rfl
    | succ j ih =>
      intro c M1 f1 hc ha x1 g1
      have hc9 := (ho c (by omega)).1
      refine ev_iload_n (i := 1) dX8_goDay_2 rfl rfl ?_
      refine ev_bipush (v := nI 12) dX8_goDay_3 rfl ?_
      refine ev_icmp_geN 60 dX8_goDay_5 (by decide) (by omega) (by omega) (fun b5 => by exfalso; omega) (fun b5 => ?_)
      refine ev_aload_n (i := 0) dX8_goDay_8 rfl rfl ?_
      refine ev_iconst (v := nI 0) dX8_goDay_9 rfl ?_
      refine ev_iload_n (i := 1) dX8_goDay_10 rfl rfl ?_
      refine ev_iaddN dX8_goDay_11 ?_
      refine ev_dup2 dX8_goDay_12 rfl rfl ?_
      refine ev_ialoadN dX8_goDay_13 (by first | omega | decide) (by first | assumption | (simp (disch := omega) only [mu_s, mu_n]; first | assumption | rfl)) (by omega) (by decide) ?_
      refine ev_top (i_op (gF_r g1 (by omega) (Nat.zero_add c))) ?_
      refine ev_aload_n (i := 0) dX8_goDay_14 rfl rfl ?_
      refine ev_iconst (v := nI 0) dX8_goDay_15 rfl ?_
      refine ev_iload_n (i := 1) dX8_goDay_16 rfl rfl ?_
      refine ev_iaddN dX8_goDay_17 ?_
      refine ev_ialoadN dX8_goDay_18 (by first | omega | decide) (by first | assumption | (simp (disch := omega) only [mu_s, mu_n]; first | assumption | rfl)) (by omega) (by decide) ?_
      refine ev_top (i_op (gF_r g1 (by omega) (Nat.zero_add c))) ?_
      refine ev_if_leN 26 dX8_goDay_19 (by decide) (by omega) (fun b19 => ?_) (fun b19 => ?_)
      · skip
        refine ev_iconst (v := nI 0) dX8_goDay_26 rfl ?_
        refine ev_isubN dX8_goDay_27 (by omega) ?_
        refine ev_iastoreN dX8_goDay_28 (by first | omega | decide) (by first | assumption | (simp (disch := omega) only [mu_s, mu_n]; first | assumption | rfl)) (by omega) (by decide) ?_
        refine ev_aload_n (i := 0) dX8_goDay_29 rfl rfl ?_
        refine ev_bipush (v := nI 12) dX8_goDay_30 rfl ?_
        refine ev_iload_n (i := 1) dX8_goDay_32 rfl rfl ?_
        refine ev_iaddN dX8_goDay_33 ?_
        refine ev_aload_n (i := 0) dX8_goDay_34 rfl rfl ?_
        refine ev_iconst (v := nI 0) dX8_goDay_35 rfl ?_
        refine ev_iload_n (i := 1) dX8_goDay_36 rfl rfl ?_
        refine ev_iaddN dX8_goDay_37 ?_
        refine ev_ialoadN dX8_goDay_38 (by first | omega | decide) (by first | assumption | (simp (disch := omega) only [mu_s, mu_n]; first | assumption | rfl)) (by omega) (by decide) ?_
        refine ev_top (i_op (upd_a rfl)) ?_
        refine ev_if_neN 47 dX8_goDay_39 (by decide) (by omega) (fun b39 => ?_) (fun b39 => ?_)
        · skip
          refine ev_aload_n (i := 0) dX8_goDay_47 rfl rfl ?_
          refine ev_bipush (v := nI 12) dX8_goDay_48 rfl ?_
          refine ev_iload_n (i := 1) dX8_goDay_50 rfl rfl ?_
          refine ev_iaddN dX8_goDay_51 ?_
          refine ev_ialoadN dX8_goDay_52 (by first | omega | decide) (by first | assumption | (simp (disch := omega) only [mu_s, mu_n]; first | assumption | rfl)) (by omega) (by decide) ?_
          refine ev_iastoreN dX8_goDay_53 (by first | omega | decide) (by first | assumption | (simp (disch := omega) only [mu_s, mu_n]; first | assumption | rfl)) (by omega) (by decide) ?_
          refine ev_incN dX8_goDay_54 (by rfl) (by decide) rfl ?_
          refine ev_goto 2 dX8_goDay_57 (by decide) ?_
          have e0 : (pgDay p).1 c = p.1 c - 1 := rfl
          have e1 : (pgDay p).2.1 c = if p.1 c ≤ 1 then none else p.2.1 c := rfl
          refine ih (c + 1) _ _ (by omega) (ag_mu (ag_mu ha (by omega) (by omega)) (by omega) (by omega)) (mu_s _ _ _) (gF_s g1 (by omega) (Nat.zero_add c) rfl (congrArg nI (by first | (rw [e0]; omega) | rw [e0])) ?_)
          rw [e1]
          first
          | (rw [if_pos (by omega)]; rfl)
          | (rw [if_neg (by omega), upd_b (by omega)]; exact gF_rt g1 (by omega) rfl)
        · skip
          refine ev_bipush (v := (-9)) dX8_goDay_42 rfl ?_
          refine ev_goto 53 dX8_goDay_44 (by decide) ?_
          refine ev_iastoreN dX8_goDay_53 (by first | omega | decide) (by first | assumption | (simp (disch := omega) only [mu_s, mu_n]; first | assumption | rfl)) (by omega) (by decide) ?_
          refine ev_incN dX8_goDay_54 (by rfl) (by decide) rfl ?_
          refine ev_goto 2 dX8_goDay_57 (by decide) ?_
          have e0 : (pgDay p).1 c = p.1 c - 1 := rfl
          have e1 : (pgDay p).2.1 c = if p.1 c ≤ 1 then none else p.2.1 c := rfl
          refine ih (c + 1) _ _ (by omega) (ag_mu (ag_mu ha (by omega) (by omega)) (by omega) (by omega)) (mu_s _ _ _) (gF_s g1 (by omega) (Nat.zero_add c) rfl (congrArg nI (by first | (rw [e0]; omega) | rw [e0])) ?_)
          rw [e1]
          first
          | (rw [if_pos (by omega)]; rfl)
          | (rw [if_neg (by omega), upd_b (by omega)]; exact gF_rt g1 (by omega) rfl)
      · skip
        refine ev_iconst (v := nI 1) dX8_goDay_22 rfl ?_
        refine ev_goto 27 dX8_goDay_23 (by decide) ?_
        refine ev_isubN dX8_goDay_27 (by omega) ?_
        refine ev_iastoreN dX8_goDay_28 (by first | omega | decide) (by first | assumption | (simp (disch := omega) only [mu_s, mu_n]; first | assumption | rfl)) (by omega) (by decide) ?_
        refine ev_aload_n (i := 0) dX8_goDay_29 rfl rfl ?_
        refine ev_bipush (v := nI 12) dX8_goDay_30 rfl ?_
        refine ev_iload_n (i := 1) dX8_goDay_32 rfl rfl ?_
        refine ev_iaddN dX8_goDay_33 ?_
        refine ev_aload_n (i := 0) dX8_goDay_34 rfl rfl ?_
        refine ev_iconst (v := nI 0) dX8_goDay_35 rfl ?_
        refine ev_iload_n (i := 1) dX8_goDay_36 rfl rfl ?_
        refine ev_iaddN dX8_goDay_37 ?_
        refine ev_ialoadN dX8_goDay_38 (by first | omega | decide) (by first | assumption | (simp (disch := omega) only [mu_s, mu_n]; first | assumption | rfl)) (by omega) (by decide) ?_
        refine ev_top (i_op (upd_a rfl)) ?_
        refine ev_if_neN 47 dX8_goDay_39 (by decide) (by omega) (fun b39 => ?_) (fun b39 => ?_)
        · skip
          refine ev_aload_n (i := 0) dX8_goDay_47 rfl rfl ?_
          refine ev_bipush (v := nI 12) dX8_goDay_48 rfl ?_
          refine ev_iload_n (i := 1) dX8_goDay_50 rfl rfl ?_
          refine ev_iaddN dX8_goDay_51 ?_
          refine ev_ialoadN dX8_goDay_52 (by first | omega | decide) (by first | assumption | (simp (disch := omega) only [mu_s, mu_n]; first | assumption | rfl)) (by omega) (by decide) ?_
          refine ev_iastoreN dX8_goDay_53 (by first | omega | decide) (by first | assumption | (simp (disch := omega) only [mu_s, mu_n]; first | assumption | rfl)) (by omega) (by decide) ?_
          refine ev_incN dX8_goDay_54 (by rfl) (by decide) rfl ?_
          refine ev_goto 2 dX8_goDay_57 (by decide) ?_
          have e0 : (pgDay p).1 c = p.1 c - 1 := rfl
          have e1 : (pgDay p).2.1 c = if p.1 c ≤ 1 then none else p.2.1 c := rfl
          refine ih (c + 1) _ _ (by omega) (ag_mu (ag_mu ha (by omega) (by omega)) (by omega) (by omega)) (mu_s _ _ _) (gF_s g1 (by omega) (Nat.zero_add c) rfl (congrArg nI (by first | (rw [e0]; omega) | rw [e0])) ?_)
          rw [e1]
          first
          | (rw [if_pos (by omega)]; rfl)
          | (rw [if_neg (by omega), upd_b (by omega)]; exact gF_rt g1 (by omega) rfl)
        · skip
          refine ev_bipush (v := (-9)) dX8_goDay_42 rfl ?_
          refine ev_goto 53 dX8_goDay_44 (by decide) ?_
          refine ev_iastoreN dX8_goDay_53 (by first | omega | decide) (by first | assumption | (simp (disch := omega) only [mu_s, mu_n]; first | assumption | rfl)) (by omega) (by decide) ?_
          refine ev_incN dX8_goDay_54 (by rfl) (by decide) rfl ?_
          refine ev_goto 2 dX8_goDay_57 (by decide) ?_
          have e0 : (pgDay p).1 c = p.1 c - 1 := rfl
          have e1 : (pgDay p).2.1 c = if p.1 c ≤ 1 then none else p.2.1 c := rfl
          refine ih (c + 1) _ _ (by omega) (ag_mu (ag_mu ha (by omega) (by omega)) (by omega) (by omega)) (mu_s _ _ _) (gF_s g1 (by omega) (Nat.zero_add c) rfl (congrArg nI (by first | (rw [e0]; omega) | rw [e0])) ?_)
          rw [e1]
          first
          | (rw [if_pos (by omega)]; rfl)
          | (rw [if_neg (by omega), upd_b (by omega)]; exact gF_rt g1 (by omega) rfl)
  refine ev_iconst (v := nI 0) dX8_goDay_0 rfl ?_
  refine ev_istore_n (i := 1) dX8_goDay_1 rfl (by decide) rfl ?_
  exact lp 12 0 M f rfl (ag_rf M _ _) h1 (gF_0 h2)
theorem c_mGoPress {i k : Nat} (hi : 79 ≤ i ∧ i < 88) (h : kG M i p) (ho : pgOk p) (x0 : kO M e ts l.1 ac vc sd) (hL : kML M l) (hl : ltOk l) (hk : k < l.1) (hp : ∀ M1, ag M M1 i (i + 1) → kG M1 i (pgPress (l.2.2.2.2 k) (l.2.2.2.1 k) k p) → P none M1) : Ev 88 (d + 1) mX8_goPress none 0 [.ref 72, .ref i, .int (nI k), .null] [] M P := by
  obtain ⟨f, h1, h2⟩ := h
  have h6 := hl.1
  have hf4 := (hl.2 k hk).2.2.1
  have hcl := (ltOk_cells hl hk).1
  obtain ⟨-, -, ⟨ff, xf, yf⟩, ⟨fi, xi, yi⟩⟩ := hL
  unfold kO at x0
  have lp : ∀ (j c : Nat) (M1 : mM) (f1 : Nat → Int32), c + j = 12 → ag M M1 i (i + 1) → M1 i = .inl (0, 25, .inl f1) → gF f1 (mix c (pgPress (l.2.2.2.2 k) (l.2.2.2.1 k) k p) p) → Ev 88 (d + 1) mX8_goPress none 2 [.ref 72, .ref i, .int (nI k), .int (nI c)] [] M1 P := by
    intro j
    induction j with
    | zero =>
      intro c M1 f1 hc ha x1 g1
      obtain rfl : c = 12 := by omega
      refine ev_iload_n (i := 3) dX8_goPress_2 rfl rfl ?_
      refine ev_bipush (v := nI 12) dX8_goPress_3 rfl ?_
      refine ev_icmp_geN 82 dX8_goPress_5 (by decide) (by omega) (by omega) (fun b5 => ?_) (fun b5 => by exfalso; omega)
      refine ev_ret0 dX8_goPress_82 rfl ?_
      exact hp M1 ha ⟨f1, x1, gF_e g1 rfl⟩
    | succ j ih =>
      intro c M1 f1 hc ha x1 g1
      have hc9 := (ho c (by omega)).1
      have y0 := (ha 72 (by omega)).trans x0
      have yxf := (ha 76 (by omega)).trans xf
      have yxi := (ha 77 (by omega)).trans xi
      have q1 : (pgPress (l.2.2.2.2 k) (l.2.2.2.1 k) k p).1 c = if 0 < l.2.2.2.1 k ∧ (l.2.2.2.2 k).testBit c = true then min 9 (p.1 c + l.2.2.2.1 k) else p.1 c := rfl
      have q2 : (pgPress (l.2.2.2.2 k) (l.2.2.2.1 k) k p).2.1 c = if 0 < l.2.2.2.1 k ∧ (l.2.2.2.2 k).testBit c = true then some k else p.2.1 c := rfl
      refine ev_iload_n (i := 3) dX8_goPress_2 rfl rfl ?_
      refine ev_bipush (v := nI 12) dX8_goPress_3 rfl ?_
      refine ev_icmp_geN 82 dX8_goPress_5 (by decide) (by omega) (by omega) (fun b5 => by exfalso; omega) (fun b5 => ?_)
      refine ev_aload_n (i := 0) dX8_goPress_8 rfl rfl ?_
      refine ev_getfield dX8_goPress_9 fX8_22 (by first | omega | decide) (by first | assumption | (simp (disch := omega) only [mu_s, mu_n]; first | assumption | rfl)) (by rfl) ?_
      refine ev_iload_n (i := 2) dX8_goPress_12 rfl rfl ?_
      refine ev_ialoadN dX8_goPress_13 (by first | omega | decide) (by first | assumption | (simp (disch := omega) only [mu_s, mu_n]; first | assumption | rfl)) (by omega) (by decide) ?_
      refine ev_top (i_op (yi k hk)) ?_
      refine ev_iload_n (i := 3) dX8_goPress_14 rfl rfl ?_
      refine ev_S2 (μ1 := mX8_has) dX8_goPress_15 sX8_99 okX8_has (Nat.le_of_ble_eq_true rfl) (Nat.le_of_ble_eq_true rfl) ?_
      refine c_mHas (by omega) (by omega) ?_
      refine ev_if_eqB 76 dX8_goPress_18 (by decide) (fun b18 => ?_) (fun b18 => ?_)
      · skip
        refine ev_incN dX8_goPress_76 (by rfl) (by decide) rfl ?_
        refine ev_goto 2 dX8_goPress_79 (by decide) ?_
        first
        | (have z : (l.2.2.2.2 k).testBit c = false := b18
           refine ih (c + 1) M1 f1 (by omega) ha x1 (gF_k g1 ?_ ?_)
           · rw [q1, if_neg (by rw [z]; exact fun y => by cases y.2)]
           · rw [q2, if_neg (by rw [z]; exact fun y => by cases y.2)])
        | (have z : l.2.2.2.1 k ≤ 0 := b27
           refine ih (c + 1) M1 f1 (by omega) ha x1 (gF_k g1 ?_ ?_)
           · rw [q1, if_neg (by omega)]
           · rw [q2, if_neg (by omega)])
        | (have z : 0 < l.2.2.2.1 k := b27
           refine ih (c + 1) _ _ (by omega) (ag_mu (ag_mu ha (by omega) (by omega)) (by omega) (by omega)) (mu_s _ _ _) (gF_s g1 (by omega) (Nat.zero_add c) rfl (congrArg nI ?_) ?_)
           · rw [q1, if_pos ⟨z, b18⟩]; omega
           · rw [q2, if_pos ⟨z, b18⟩]; rfl)
      · skip
        refine ev_aload_n (i := 0) dX8_goPress_21 rfl rfl ?_
        refine ev_getfield dX8_goPress_22 fX8_19 (by first | omega | decide) (by first | assumption | (simp (disch := omega) only [mu_s, mu_n]; first | assumption | rfl)) (by rfl) ?_
        refine ev_iload_n (i := 2) dX8_goPress_25 rfl rfl ?_
        refine ev_ialoadN dX8_goPress_26 (by first | omega | decide) (by first | assumption | (simp (disch := omega) only [mu_s, mu_n]; first | assumption | rfl)) (by omega) (by decide) ?_
        refine ev_top (i_op (yf k hk)) ?_
        refine ev_if_leN 76 dX8_goPress_27 (by decide) (by omega) (fun b27 => ?_) (fun b27 => ?_)
        · skip
          refine ev_incN dX8_goPress_76 (by rfl) (by decide) rfl ?_
          refine ev_goto 2 dX8_goPress_79 (by decide) ?_
          first
          | (have z : (l.2.2.2.2 k).testBit c = false := b18
             refine ih (c + 1) M1 f1 (by omega) ha x1 (gF_k g1 ?_ ?_)
             · rw [q1, if_neg (by rw [z]; exact fun y => by cases y.2)]
             · rw [q2, if_neg (by rw [z]; exact fun y => by cases y.2)])
          | (have z : l.2.2.2.1 k ≤ 0 := b27
             refine ih (c + 1) M1 f1 (by omega) ha x1 (gF_k g1 ?_ ?_)
             · rw [q1, if_neg (by omega)]
             · rw [q2, if_neg (by omega)])
          | (have z : 0 < l.2.2.2.1 k := b27
             refine ih (c + 1) _ _ (by omega) (ag_mu (ag_mu ha (by omega) (by omega)) (by omega) (by omega)) (mu_s _ _ _) (gF_s g1 (by omega) (Nat.zero_add c) rfl (congrArg nI ?_) ?_)
             · rw [q1, if_pos ⟨z, b18⟩]; omega
             · rw [q2, if_pos ⟨z, b18⟩]; rfl)
        · skip
          refine ev_aload_n (i := 1) dX8_goPress_30 rfl rfl ?_
          refine ev_iconst (v := nI 0) dX8_goPress_31 rfl ?_
          refine ev_iload_n (i := 3) dX8_goPress_32 rfl rfl ?_
          refine ev_iaddN dX8_goPress_33 ?_
          refine ev_aload_n (i := 1) dX8_goPress_34 rfl rfl ?_
          refine ev_iconst (v := nI 0) dX8_goPress_35 rfl ?_
          refine ev_iload_n (i := 3) dX8_goPress_36 rfl rfl ?_
          refine ev_iaddN dX8_goPress_37 ?_
          refine ev_ialoadN dX8_goPress_38 (by first | omega | decide) (by first | assumption | (simp (disch := omega) only [mu_s, mu_n]; first | assumption | rfl)) (by omega) (by decide) ?_
          refine ev_top (i_op (gF_r g1 (by omega) (Nat.zero_add c))) ?_
          refine ev_aload_n (i := 0) dX8_goPress_39 rfl rfl ?_
          refine ev_getfield dX8_goPress_40 fX8_19 (by first | omega | decide) (by first | assumption | (simp (disch := omega) only [mu_s, mu_n]; first | assumption | rfl)) (by rfl) ?_
          refine ev_iload_n (i := 2) dX8_goPress_43 rfl rfl ?_
          refine ev_ialoadN dX8_goPress_44 (by first | omega | decide) (by first | assumption | (simp (disch := omega) only [mu_s, mu_n]; first | assumption | rfl)) (by omega) (by decide) ?_
          refine ev_top (i_op (yf k hk)) ?_
          refine ev_iaddN dX8_goPress_45 ?_
          refine ev_bipush (v := nI 9) dX8_goPress_46 rfl ?_
          refine ev_icmp_leN 56 dX8_goPress_48 (by decide) (by omega) (by omega) (fun b48 => ?_) (fun b48 => ?_)
          · skip
            refine ev_aload_n (i := 1) dX8_goPress_56 rfl rfl ?_
            refine ev_iconst (v := nI 0) dX8_goPress_57 rfl ?_
            refine ev_iload_n (i := 3) dX8_goPress_58 rfl rfl ?_
            refine ev_iaddN dX8_goPress_59 ?_
            refine ev_ialoadN dX8_goPress_60 (by first | omega | decide) (by first | assumption | (simp (disch := omega) only [mu_s, mu_n]; first | assumption | rfl)) (by omega) (by decide) ?_
            refine ev_top (i_op (gF_r g1 (by omega) (Nat.zero_add c))) ?_
            refine ev_aload_n (i := 0) dX8_goPress_61 rfl rfl ?_
            refine ev_getfield dX8_goPress_62 fX8_19 (by first | omega | decide) (by first | assumption | (simp (disch := omega) only [mu_s, mu_n]; first | assumption | rfl)) (by rfl) ?_
            refine ev_iload_n (i := 2) dX8_goPress_65 rfl rfl ?_
            refine ev_ialoadN dX8_goPress_66 (by first | omega | decide) (by first | assumption | (simp (disch := omega) only [mu_s, mu_n]; first | assumption | rfl)) (by omega) (by decide) ?_
            refine ev_top (i_op (yf k hk)) ?_
            refine ev_iaddN dX8_goPress_67 ?_
            refine ev_iastoreN dX8_goPress_68 (by first | omega | decide) (by first | assumption | (simp (disch := omega) only [mu_s, mu_n]; first | assumption | rfl)) (by omega) (by decide) ?_
            refine ev_aload_n (i := 1) dX8_goPress_69 rfl rfl ?_
            refine ev_bipush (v := nI 12) dX8_goPress_70 rfl ?_
            refine ev_iload_n (i := 3) dX8_goPress_72 rfl rfl ?_
            refine ev_iaddN dX8_goPress_73 ?_
            refine ev_iload_n (i := 2) dX8_goPress_74 rfl rfl ?_
            refine ev_iastoreN dX8_goPress_75 (by first | omega | decide) (by first | assumption | (simp (disch := omega) only [mu_s, mu_n]; first | assumption | rfl)) (by omega) (by decide) ?_
            refine ev_incN dX8_goPress_76 (by rfl) (by decide) rfl ?_
            refine ev_goto 2 dX8_goPress_79 (by decide) ?_
            first
            | (have z : (l.2.2.2.2 k).testBit c = false := b18
               refine ih (c + 1) M1 f1 (by omega) ha x1 (gF_k g1 ?_ ?_)
               · rw [q1, if_neg (by rw [z]; exact fun y => by cases y.2)]
               · rw [q2, if_neg (by rw [z]; exact fun y => by cases y.2)])
            | (have z : l.2.2.2.1 k ≤ 0 := b27
               refine ih (c + 1) M1 f1 (by omega) ha x1 (gF_k g1 ?_ ?_)
               · rw [q1, if_neg (by omega)]
               · rw [q2, if_neg (by omega)])
            | (have z : 0 < l.2.2.2.1 k := b27
               refine ih (c + 1) _ _ (by omega) (ag_mu (ag_mu ha (by omega) (by omega)) (by omega) (by omega)) (mu_s _ _ _) (gF_s g1 (by omega) (Nat.zero_add c) rfl (congrArg nI ?_) ?_)
               · rw [q1, if_pos ⟨z, b18⟩]; omega
               · rw [q2, if_pos ⟨z, b18⟩]; rfl)
          · skip
            refine ev_bipush (v := nI 9) dX8_goPress_51 rfl ?_
            refine ev_goto 68 dX8_goPress_53 (by decide) ?_
            refine ev_iastoreN dX8_goPress_68 (by first | omega | decide) (by first | assumption | (simp (disch := omega) only [mu_s, mu_n]; first | assumption | rfl)) (by omega) (by decide) ?_
            refine ev_aload_n (i := 1) dX8_goPress_69 rfl rfl ?_
            refine ev_bipush (v := nI 12) dX8_goPress_70 rfl ?_
            refine ev_iload_n (i := 3) dX8_goPress_72 rfl rfl ?_
            refine ev_iaddN dX8_goPress_73 ?_
            refine ev_iload_n (i := 2) dX8_goPress_74 rfl rfl ?_
            refine ev_iastoreN dX8_goPress_75 (by first | omega | decide) (by first | assumption | (simp (disch := omega) only [mu_s, mu_n]; first | assumption | rfl)) (by omega) (by decide) ?_
            refine ev_incN dX8_goPress_76 (by rfl) (by decide) rfl ?_
            refine ev_goto 2 dX8_goPress_79 (by decide) ?_
            first
            | (have z : (l.2.2.2.2 k).testBit c = false := b18
               refine ih (c + 1) M1 f1 (by omega) ha x1 (gF_k g1 ?_ ?_)
               · rw [q1, if_neg (by rw [z]; exact fun y => by cases y.2)]
               · rw [q2, if_neg (by rw [z]; exact fun y => by cases y.2)])
            | (have z : l.2.2.2.1 k ≤ 0 := b27
               refine ih (c + 1) M1 f1 (by omega) ha x1 (gF_k g1 ?_ ?_)
               · rw [q1, if_neg (by omega)]
               · rw [q2, if_neg (by omega)])
            | (have z : 0 < l.2.2.2.1 k := b27
               refine ih (c + 1) _ _ (by omega) (ag_mu (ag_mu ha (by omega) (by omega)) (by omega) (by omega)) (mu_s _ _ _) (gF_s g1 (by omega) (Nat.zero_add c) rfl (congrArg nI ?_) ?_)
               · rw [q1, if_pos ⟨z, b18⟩]; omega
               · rw [q2, if_pos ⟨z, b18⟩]; rfl)
  refine ev_iconst (v := nI 0) dX8_goPress_0 rfl ?_
  refine ev_istore_n (i := 3) dX8_goPress_1 rfl (by decide) rfl ?_
  exact lp 12 0 M f rfl (ag_rf M _ _) h1 (gF_0 h2)
theorem c_mShown {i : Nat} (hi : i < 88) (h : kG M i p) (ho : pgOk p) (hp : P (some (.int (nI (shN p.1 0)))) M) : Ev 88 d mX8_shown none 0 [.ref i, .null, .null] [] M P := by
  obtain ⟨f, h1, h2, -⟩ := h
  have lp : ∀ (j c acc : Nat), c + j = 12 → acc = bN (fun c => decide (0 < p.1 c)) c → Ev 88 d mX8_shown none 4 [.ref i, .int (nI acc), .int (nI c)] [] M P := by
    intro j
    induction j with
    | zero =>
      intro c acc hc ha
      obtain rfl : c = 12 := by omega
      subst ha
      refine ev_iload_n (i := 2) dX8_shown_4 rfl rfl ?_
      refine ev_bipush (v := nI 12) dX8_shown_5 rfl ?_
      refine ev_icmp_geN 34 dX8_shown_7 (by decide) (by omega) (by omega) (fun b7 => ?_) (fun b7 => by exfalso; omega)
      refine ev_iload_n (i := 1) dX8_shown_34 rfl rfl ?_
      refine ev_reti dX8_shown_35 rfl rfl ?_
      exact hp
    | succ j ih =>
      intro c acc hc ha
      have hc9 := (ho c (by omega)).1
      refine ev_iload_n (i := 2) dX8_shown_4 rfl rfl ?_
      refine ev_bipush (v := nI 12) dX8_shown_5 rfl ?_
      refine ev_icmp_geN 34 dX8_shown_7 (by decide) (by omega) (by omega) (fun b7 => by exfalso; omega) (fun b7 => ?_)
      refine ev_iload_n (i := 1) dX8_shown_10 rfl rfl ?_
      refine ev_aload_n (i := 0) dX8_shown_11 rfl rfl ?_
      refine ev_iconst (v := nI 0) dX8_shown_12 rfl ?_
      refine ev_iload_n (i := 2) dX8_shown_13 rfl rfl ?_
      refine ev_iaddN dX8_shown_14 ?_
      refine ev_ialoadN dX8_shown_15 (by first | omega | decide) (by first | assumption | (simp (disch := omega) only [mu_s, mu_n]; first | assumption | rfl)) (by omega) (by decide) ?_
      refine ev_top (i_op ((congrArg f (Nat.zero_add c)).trans (h2 c (by omega)))) ?_
      refine ev_if_leN 25 dX8_shown_16 (by decide) (by omega) (fun b16 => ?_) (fun b16 => ?_)
      · skip
        refine ev_iconst (v := nI 0) dX8_shown_25 rfl ?_
        refine ev_iorN dX8_shown_26 ?_
        refine ev_istore_n (i := 1) dX8_shown_27 rfl (by decide) rfl ?_
        refine ev_incN dX8_shown_28 (by rfl) (by decide) rfl ?_
        refine ev_goto 4 dX8_shown_31 (by decide) ?_
        first
        | (have q : p.1 c ≤ 0 := b16
           exact ih (c + 1) _ (by omega) (by rw [Nat.or_zero, ha]; exact bN_f (by simp; omega)))
        | (have q : 0 < p.1 c := b16
           exact ih (c + 1) _ (by omega) (by rw [ha]; exact bN_t (by simp; omega)))
      · skip
        refine ev_iconst (v := nI 1) dX8_shown_19 rfl ?_
        refine ev_iload_n (i := 2) dX8_shown_20 rfl rfl ?_
        refine ev_ishl1 dX8_shown_21 (by omega) ?_
        refine ev_goto 26 dX8_shown_22 (by decide) ?_
        refine ev_iorN dX8_shown_26 ?_
        refine ev_istore_n (i := 1) dX8_shown_27 rfl (by decide) rfl ?_
        refine ev_incN dX8_shown_28 (by rfl) (by decide) rfl ?_
        refine ev_goto 4 dX8_shown_31 (by decide) ?_
        first
        | (have q : p.1 c ≤ 0 := b16
           exact ih (c + 1) _ (by omega) (by rw [Nat.or_zero, ha]; exact bN_f (by simp; omega)))
        | (have q : 0 < p.1 c := b16
           exact ih (c + 1) _ (by omega) (by rw [ha]; exact bN_t (by simp; omega)))
  refine ev_iconst (v := nI 0) dX8_shown_0 rfl ?_
  refine ev_istore_n (i := 1) dX8_shown_1 rfl (by decide) rfl ?_
  refine ev_iconst (v := nI 0) dX8_shown_2 rfl ?_
  refine ev_istore_n (i := 2) dX8_shown_3 rfl (by decide) rfl ?_
  exact lp 12 0 0 rfl rfl
theorem c_mShownIn {n : Nat} (x0 : kO M e ts lc ac vc sd) (h : kG M 79 p) (ho : pgOk p) (hn : n < 2 ^ 31) (hp : P (some (.int (nI (shN p.1 n)))) M) : Ev 88 d mX8_shownIn none 0 [.ref 72, .int (nI n), .null, .null] [] M P := by
  obtain ⟨f, h1, h2, -⟩ := h
  unfold kO at x0
  have lp : ∀ (j c acc : Nat), c + j = 12 → acc = bN (fun c => decide (n < p.1 c)) c → Ev 88 d mX8_shownIn none 4 [.ref 72, .int (nI n), .int (nI acc), .int (nI c)] [] M P := by
    intro j
    induction j with
    | zero =>
      intro c acc hc ha
      obtain rfl : c = 12 := by omega
      subst ha
      refine ev_iload_n (i := 3) dX8_shownIn_4 rfl rfl ?_
      refine ev_bipush (v := nI 12) dX8_shownIn_5 rfl ?_
      refine ev_icmp_geN 38 dX8_shownIn_7 (by decide) (by omega) (by omega) (fun b7 => ?_) (fun b7 => by exfalso; omega)
      refine ev_iload_n (i := 2) dX8_shownIn_38 rfl rfl ?_
      refine ev_reti dX8_shownIn_39 rfl rfl ?_
      exact hp
    | succ j ih =>
      intro c acc hc ha
      have hc9 := (ho c (by omega)).1
      refine ev_iload_n (i := 3) dX8_shownIn_4 rfl rfl ?_
      refine ev_bipush (v := nI 12) dX8_shownIn_5 rfl ?_
      refine ev_icmp_geN 38 dX8_shownIn_7 (by decide) (by omega) (by omega) (fun b7 => by exfalso; omega) (fun b7 => ?_)
      refine ev_iload_n (i := 2) dX8_shownIn_10 rfl rfl ?_
      refine ev_aload_n (i := 0) dX8_shownIn_11 rfl rfl ?_
      refine ev_getfield dX8_shownIn_12 fX8_28 (by first | omega | decide) (by first | assumption | (simp (disch := omega) only [mu_s, mu_n]; first | assumption | rfl)) (by rfl) ?_
      refine ev_iconst (v := nI 0) dX8_shownIn_15 rfl ?_
      refine ev_iload_n (i := 3) dX8_shownIn_16 rfl rfl ?_
      refine ev_iaddN dX8_shownIn_17 ?_
      refine ev_ialoadN dX8_shownIn_18 (by first | omega | decide) (by first | assumption | (simp (disch := omega) only [mu_s, mu_n]; first | assumption | rfl)) (by omega) (by decide) ?_
      refine ev_top (i_op ((congrArg f (Nat.zero_add c)).trans (h2 c (by omega)))) ?_
      refine ev_iload_n (i := 1) dX8_shownIn_19 rfl rfl ?_
      refine ev_icmp_leN 29 dX8_shownIn_20 (by decide) (by omega) (by omega) (fun b20 => ?_) (fun b20 => ?_)
      · skip
        refine ev_iconst (v := nI 0) dX8_shownIn_29 rfl ?_
        refine ev_iorN dX8_shownIn_30 ?_
        refine ev_istore_n (i := 2) dX8_shownIn_31 rfl (by decide) rfl ?_
        refine ev_incN dX8_shownIn_32 (by rfl) (by decide) rfl ?_
        refine ev_goto 4 dX8_shownIn_35 (by decide) ?_
        first
        | (have q : p.1 c ≤ n := b20
           exact ih (c + 1) _ (by omega) (by rw [Nat.or_zero, ha]; exact bN_f (by simp; omega)))
        | (have q : n < p.1 c := b20
           exact ih (c + 1) _ (by omega) (by rw [ha]; exact bN_t (by simp; omega)))
      · skip
        refine ev_iconst (v := nI 1) dX8_shownIn_23 rfl ?_
        refine ev_iload_n (i := 3) dX8_shownIn_24 rfl rfl ?_
        refine ev_ishl1 dX8_shownIn_25 (by omega) ?_
        refine ev_goto 30 dX8_shownIn_26 (by decide) ?_
        refine ev_iorN dX8_shownIn_30 ?_
        refine ev_istore_n (i := 2) dX8_shownIn_31 rfl (by decide) rfl ?_
        refine ev_incN dX8_shownIn_32 (by rfl) (by decide) rfl ?_
        refine ev_goto 4 dX8_shownIn_35 (by decide) ?_
        first
        | (have q : p.1 c ≤ n := b20
           exact ih (c + 1) _ (by omega) (by rw [Nat.or_zero, ha]; exact bN_f (by simp; omega)))
        | (have q : n < p.1 c := b20
           exact ih (c + 1) _ (by omega) (by rw [ha]; exact bN_t (by simp; omega)))
  refine ev_iconst (v := nI 0) dX8_shownIn_0 rfl ?_
  refine ev_istore_n (i := 2) dX8_shownIn_1 rfl (by decide) rfl ?_
  refine ev_iconst (v := nI 0) dX8_shownIn_2 rfl ?_
  refine ev_istore_n (i := 3) dX8_shownIn_3 rfl (by decide) rfl ?_
  exact lp 12 0 0 rfl rfl
theorem c_mIsRead {s k : Nat} (x0 : kO M e ts l.1 ac vc sd) (hL : kML M l) (hl : ltOk l) (hk : k < l.1) (hp : P (some (.int (bI (rdN l s k)))) M) : Ev 88 d mX8_isRead none 0 [.ref 72, .int (nI k), .int (nI s)] [] M P := by
  have h6 := hl.1
  obtain ⟨⟨fa, xa, ya⟩, -, -, ⟨fi, xi, yi⟩⟩ := hL
  have h8 := (hl.2 k hk).1
  have h9 := (ltOk_cells hl hk).1
  have h10 := ltOk_win hl hk
  unfold kO at x0
  refine ev_iload_n (i := 2) dX8_isRead_0 rfl rfl ?_
  refine ev_bipush (v := nI 15) dX8_isRead_1 rfl ?_
  refine ev_aload_n (i := 0) dX8_isRead_3 rfl rfl ?_
  refine ev_getfield dX8_isRead_4 fX8_13 (by first | omega | decide) (by first | assumption | (simp (disch := omega) only [mu_s, mu_n]; first | assumption | rfl)) (by rfl) ?_
  refine ev_iload_n (i := 1) dX8_isRead_7 rfl rfl ?_
  refine ev_ialoadN dX8_isRead_8 (by first | omega | decide) (by first | assumption | (simp (disch := omega) only [mu_s, mu_n]; first | assumption | rfl)) (by omega) (by decide) ?_
  refine ev_top (i_op (ya k hk)) ?_
  refine ev_ishlN dX8_isRead_9 (by omega) ?_
  refine ev_iandN dX8_isRead_10 ?_
  refine ev_aload_n (i := 0) dX8_isRead_11 rfl rfl ?_
  refine ev_getfield dX8_isRead_12 fX8_22 (by first | omega | decide) (by first | assumption | (simp (disch := omega) only [mu_s, mu_n]; first | assumption | rfl)) (by rfl) ?_
  refine ev_iload_n (i := 1) dX8_isRead_15 rfl rfl ?_
  refine ev_ialoadN dX8_isRead_16 (by first | omega | decide) (by first | assumption | (simp (disch := omega) only [mu_s, mu_n]; first | assumption | rfl)) (by omega) (by decide) ?_
  refine ev_top (i_op (yi k hk)) ?_
  refine ev_icmp_neN 24 dX8_isRead_17 (by decide) (and_lt31 (by omega)) (by omega) (fun b17 => ?_) (fun b17 => ?_)
  · skip
    refine ev_iconst (v := nI 0) dX8_isRead_24 rfl ?_
    refine ev_reti dX8_isRead_25 rfl rfl ?_
    exact e_retF (decide_eq_false b17) hp
  · skip
    refine ev_iconst (v := nI 1) dX8_isRead_20 rfl ?_
    refine ev_goto 25 dX8_isRead_21 (by decide) ?_
    refine ev_reti dX8_isRead_25 rfl rfl ?_
    exact e_retT (decide_eq_true b17) hp
theorem c_mReadBy {s : Nat} (x0 : kO M e ts l.1 ac vc sd) (hL : kML M l) (hl : ltOk l) (hp : P (some (.int (nI (rdSet l s)))) M) : Ev 88 (d + 1) mX8_readBy none 0 [.ref 72, .int (nI s), .null, .null] [] M P := by
  have h6 := hl.1
  have x1 := x0
  unfold kO at x1
  have lp : ∀ (j c acc : Nat), c + j = l.1 → acc = bN (rdN l s) c → Ev 88 (d + 1) mX8_readBy none 4 [.ref 72, .int (nI s), .int (nI acc), .int (nI c)] [] M P := by
    intro j
    induction j with
    | zero =>
      intro c acc hc ha
      obtain rfl : c = l.1 := by omega
      subst ha
      refine ev_iload_n (i := 3) dX8_readBy_4 rfl rfl ?_
      refine ev_aload_n (i := 0) dX8_readBy_5 rfl rfl ?_
      refine ev_getfield dX8_readBy_6 fX8_64 (by first | omega | decide) (by first | assumption | (simp (disch := omega) only [mu_s, mu_n]; first | assumption | rfl)) (by rfl) ?_
      refine ev_icmp_geN 37 dX8_readBy_9 (by decide) (by omega) (by omega) (fun b9 => ?_) (fun b9 => by exfalso; omega)
      refine ev_iload_n (i := 2) dX8_readBy_37 rfl rfl ?_
      refine ev_reti dX8_readBy_38 rfl rfl ?_
      exact hp
    | succ j ih =>
      intro c acc hc ha
      refine ev_iload_n (i := 3) dX8_readBy_4 rfl rfl ?_
      refine ev_aload_n (i := 0) dX8_readBy_5 rfl rfl ?_
      refine ev_getfield dX8_readBy_6 fX8_64 (by first | omega | decide) (by first | assumption | (simp (disch := omega) only [mu_s, mu_n]; first | assumption | rfl)) (by rfl) ?_
      refine ev_icmp_geN 37 dX8_readBy_9 (by decide) (by omega) (by omega) (fun b9 => by exfalso; omega) (fun b9 => ?_)
      refine ev_iload_n (i := 2) dX8_readBy_12 rfl rfl ?_
      refine ev_aload_n (i := 0) dX8_readBy_13 rfl rfl ?_
      refine ev_iload_n (i := 3) dX8_readBy_14 rfl rfl ?_
      refine ev_iload_n (i := 1) dX8_readBy_15 rfl rfl ?_
      refine ev_V2 (μ1 := mX8_isRead) dX8_readBy_16 sX8_95 okX8_isRead (by first | omega | decide) (by first | assumption | (simp (disch := omega) only [mu_s, mu_n]; first | assumption | rfl)) (Nat.le_of_ble_eq_true rfl) (Nat.le_of_ble_eq_true rfl) ?_
      refine c_mIsRead x0 hL hl (by omega) ?_
      refine ev_if_eqB 28 dX8_readBy_19 (by decide) (fun b19 => ?_) (fun b19 => ?_)
      · skip
        refine ev_iconst (v := nI 0) dX8_readBy_28 rfl ?_
        refine ev_iorN dX8_readBy_29 ?_
        refine ev_istore_n (i := 2) dX8_readBy_30 rfl (by decide) rfl ?_
        refine ev_incN dX8_readBy_31 (by rfl) (by decide) rfl ?_
        refine ev_goto 4 dX8_readBy_34 (by decide) ?_
        first
        | (have q : rdN l s c = false := b19
           exact ih _ _ (by omega) (by rw [Nat.or_zero, ha]; exact bN_f (by rw [q]; decide)))
        | (have q : rdN l s c = true := b19
           exact ih _ _ (by omega) (by rw [ha]; exact bN_t q))
      · skip
        refine ev_iconst (v := nI 1) dX8_readBy_22 rfl ?_
        refine ev_iload_n (i := 3) dX8_readBy_23 rfl rfl ?_
        refine ev_ishl1 dX8_readBy_24 (by omega) ?_
        refine ev_goto 29 dX8_readBy_25 (by decide) ?_
        refine ev_iorN dX8_readBy_29 ?_
        refine ev_istore_n (i := 2) dX8_readBy_30 rfl (by decide) rfl ?_
        refine ev_incN dX8_readBy_31 (by rfl) (by decide) rfl ?_
        refine ev_goto 4 dX8_readBy_34 (by decide) ?_
        first
        | (have q : rdN l s c = false := b19
           exact ih _ _ (by omega) (by rw [Nat.or_zero, ha]; exact bN_f (by rw [q]; decide)))
        | (have q : rdN l s c = true := b19
           exact ih _ _ (by omega) (by rw [ha]; exact bN_t q))
  refine ev_iconst (v := nI 0) dX8_readBy_0 rfl ?_
  refine ev_istore_n (i := 2) dX8_readBy_1 rfl (by decide) rfl ?_
  refine ev_iconst (v := nI 0) dX8_readBy_2 rfl ?_
  refine ev_istore_n (i := 3) dX8_readBy_3 rfl (by decide) rfl ?_
  exact lp l.1 0 0 (by omega) rfl
theorem c_mShowsBy {s : Nat} (x0 : kO M e ts l.1 ac vc sd) (hL : kML M l) (hl : ltOk l) (hs : s < 2 ^ 31) (hp : P (some (.int (nI (shBy l s)))) M) : Ev 88 (d + 1) mX8_showsBy none 0 [.ref 72, .int (nI s), .null, .null] [] M P := by
  have h6 := hl.1
  obtain ⟨-, -, ⟨ff, xf, yf⟩, ⟨fi, xi, yi⟩⟩ := hL
  unfold kO at x0
  have lp : ∀ (j c acc : Nat), c + j = l.1 → acc = oN (fun k => s.testBit k && decide (l.2.2.2.1 k ≠ 0)) l.2.2.2.2 c → Ev 88 (d + 1) mX8_showsBy none 4 [.ref 72, .int (nI s), .int (nI acc), .int (nI c)] [] M P := by
    intro j
    induction j with
    | zero =>
      intro c acc hc ha
      obtain rfl : c = l.1 := by omega
      subst ha
      refine ev_iload_n (i := 3) dX8_showsBy_4 rfl rfl ?_
      refine ev_aload_n (i := 0) dX8_showsBy_5 rfl rfl ?_
      refine ev_getfield dX8_showsBy_6 fX8_64 (by first | omega | decide) (by first | assumption | (simp (disch := omega) only [mu_s, mu_n]; first | assumption | rfl)) (by rfl) ?_
      refine ev_icmp_geN 48 dX8_showsBy_9 (by decide) (by omega) (by omega) (fun b9 => ?_) (fun b9 => by exfalso; omega)
      refine ev_iload_n (i := 2) dX8_showsBy_48 rfl rfl ?_
      refine ev_reti dX8_showsBy_49 rfl rfl ?_
      exact hp
    | succ j ih =>
      intro c acc hc ha
      have h4 := (hl.2 c (by omega)).2.2.1
      refine ev_iload_n (i := 3) dX8_showsBy_4 rfl rfl ?_
      refine ev_aload_n (i := 0) dX8_showsBy_5 rfl rfl ?_
      refine ev_getfield dX8_showsBy_6 fX8_64 (by first | omega | decide) (by first | assumption | (simp (disch := omega) only [mu_s, mu_n]; first | assumption | rfl)) (by rfl) ?_
      refine ev_icmp_geN 48 dX8_showsBy_9 (by decide) (by omega) (by omega) (fun b9 => by exfalso; omega) (fun b9 => ?_)
      refine ev_iload_n (i := 2) dX8_showsBy_12 rfl rfl ?_
      refine ev_iload_n (i := 1) dX8_showsBy_13 rfl rfl ?_
      refine ev_iload_n (i := 3) dX8_showsBy_14 rfl rfl ?_
      refine ev_S2 (μ1 := mX8_has) dX8_showsBy_15 sX8_99 okX8_has (Nat.le_of_ble_eq_true rfl) (Nat.le_of_ble_eq_true rfl) ?_
      refine c_mHas hs (by omega) ?_
      refine ev_if_eqB 39 dX8_showsBy_18 (by decide) (fun b18 => ?_) (fun b18 => ?_)
      · skip
        refine ev_iconst (v := nI 0) dX8_showsBy_39 rfl ?_
        refine ev_iorN dX8_showsBy_40 ?_
        refine ev_istore_n (i := 2) dX8_showsBy_41 rfl (by decide) rfl ?_
        refine ev_incN dX8_showsBy_42 (by rfl) (by decide) rfl ?_
        refine ev_goto 4 dX8_showsBy_45 (by decide) ?_
        first
        | (have q : s.testBit c = false := b18
           exact ih _ _ (by omega) (by rw [Nat.or_zero, ha]; exact oN_f (by simp [q])))
        | (have q : l.2.2.2.1 c ≤ 0 := b27
           exact ih _ _ (by omega) (by rw [Nat.or_zero, ha]; exact oN_f (by rw [decide_eq_false (show ¬ l.2.2.2.1 c ≠ 0 by omega), Bool.and_false]; exact Bool.false_ne_true)))
        | (have q : 0 < l.2.2.2.1 c := b27
           exact ih _ _ (by omega) (by rw [ha]; exact oN_t (by rw [b18, decide_eq_true (show l.2.2.2.1 c ≠ 0 by omega)]; rfl)))
      · skip
        refine ev_aload_n (i := 0) dX8_showsBy_21 rfl rfl ?_
        refine ev_getfield dX8_showsBy_22 fX8_19 (by first | omega | decide) (by first | assumption | (simp (disch := omega) only [mu_s, mu_n]; first | assumption | rfl)) (by rfl) ?_
        refine ev_iload_n (i := 3) dX8_showsBy_25 rfl rfl ?_
        refine ev_ialoadN dX8_showsBy_26 (by first | omega | decide) (by first | assumption | (simp (disch := omega) only [mu_s, mu_n]; first | assumption | rfl)) (by omega) (by decide) ?_
        refine ev_top (i_op (yf c (by omega))) ?_
        refine ev_if_leN 39 dX8_showsBy_27 (by decide) (by omega) (fun b27 => ?_) (fun b27 => ?_)
        · skip
          refine ev_iconst (v := nI 0) dX8_showsBy_39 rfl ?_
          refine ev_iorN dX8_showsBy_40 ?_
          refine ev_istore_n (i := 2) dX8_showsBy_41 rfl (by decide) rfl ?_
          refine ev_incN dX8_showsBy_42 (by rfl) (by decide) rfl ?_
          refine ev_goto 4 dX8_showsBy_45 (by decide) ?_
          first
          | (have q : s.testBit c = false := b18
             exact ih _ _ (by omega) (by rw [Nat.or_zero, ha]; exact oN_f (by simp [q])))
          | (have q : l.2.2.2.1 c ≤ 0 := b27
             exact ih _ _ (by omega) (by rw [Nat.or_zero, ha]; exact oN_f (by rw [decide_eq_false (show ¬ l.2.2.2.1 c ≠ 0 by omega), Bool.and_false]; exact Bool.false_ne_true)))
          | (have q : 0 < l.2.2.2.1 c := b27
             exact ih _ _ (by omega) (by rw [ha]; exact oN_t (by rw [b18, decide_eq_true (show l.2.2.2.1 c ≠ 0 by omega)]; rfl)))
        · skip
          refine ev_aload_n (i := 0) dX8_showsBy_30 rfl rfl ?_
          refine ev_getfield dX8_showsBy_31 fX8_22 (by first | omega | decide) (by first | assumption | (simp (disch := omega) only [mu_s, mu_n]; first | assumption | rfl)) (by rfl) ?_
          refine ev_iload_n (i := 3) dX8_showsBy_34 rfl rfl ?_
          refine ev_ialoadN dX8_showsBy_35 (by first | omega | decide) (by first | assumption | (simp (disch := omega) only [mu_s, mu_n]; first | assumption | rfl)) (by omega) (by decide) ?_
          refine ev_top (i_op (yi c (by omega))) ?_
          refine ev_goto 40 dX8_showsBy_36 (by decide) ?_
          refine ev_iorN dX8_showsBy_40 ?_
          refine ev_istore_n (i := 2) dX8_showsBy_41 rfl (by decide) rfl ?_
          refine ev_incN dX8_showsBy_42 (by rfl) (by decide) rfl ?_
          refine ev_goto 4 dX8_showsBy_45 (by decide) ?_
          first
          | (have q : s.testBit c = false := b18
             exact ih _ _ (by omega) (by rw [Nat.or_zero, ha]; exact oN_f (by simp [q])))
          | (have q : l.2.2.2.1 c ≤ 0 := b27
             exact ih _ _ (by omega) (by rw [Nat.or_zero, ha]; exact oN_f (by rw [decide_eq_false (show ¬ l.2.2.2.1 c ≠ 0 by omega), Bool.and_false]; exact Bool.false_ne_true)))
          | (have q : 0 < l.2.2.2.1 c := b27
             exact ih _ _ (by omega) (by rw [ha]; exact oN_t (by rw [b18, decide_eq_true (show l.2.2.2.1 c ≠ 0 by omega)]; rfl)))
  refine ev_iconst (v := nI 0) dX8_showsBy_0 rfl ?_
  refine ev_istore_n (i := 2) dX8_showsBy_1 rfl (by decide) rfl ?_
  refine ev_iconst (v := nI 0) dX8_showsBy_2 rfl ?_
  refine ev_istore_n (i := 3) dX8_showsBy_3 rfl (by decide) rfl ?_
  exact lp l.1 0 0 (by omega) rfl
theorem c_everyone (x0 : kO M e ts lc ac vc sd) (h6 : lc ≤ 6) (hp : P (some (.int (nI (2 ^ lc - 1)))) M) : Ev 88 d mX8_everyone none 0 [.ref 72] [] M P := by
  unfold kO at x0
  refine ev_iconst (v := nI 1) dX8_everyone_0 rfl ?_
  refine ev_aload_n (i := 0) dX8_everyone_1 rfl rfl ?_
  refine ev_getfield dX8_everyone_2 fX8_64 (by first | omega | decide) (by first | assumption | (simp (disch := omega) only [mu_s, mu_n]; first | assumption | rfl)) (by rfl) ?_
  refine ev_ishl1 dX8_everyone_5 (by omega) ?_
  refine ev_iconst (v := nI 1) dX8_everyone_6 rfl ?_
  refine ev_isubN dX8_everyone_7 (Nat.one_le_two_pow) ?_
  refine ev_reti dX8_everyone_8 rfl rfl ?_
  exact hp
end MDL
