/-! ===== the state, the answers, the class's methods ===== -/
/-- text, letters, page, acts, slots, over, seed -/
abbrev cs : Type := tx × lt × pg × List pg × (Nat → Option pg) × ov × Int64
def kC (M : mM) (s : cs) : Prop := kRt M s.2.2.2.2.2.2 ∧ kTx M s.1 ∧ kLt M s.2.1 ∧ kP M 8 s.2.2.1 ∧ (∃ p, kP M 11 p) ∧ kAc M s.2.2.2.1 ∧ kOv M s.2.2.2.2.2.1 ∧ kSl M s.2.2.2.2.1 ∧ ∃ o, kTm M o
def cOk (s : cs) : Prop := txOk s.1 ∧ ltOk s.2.1 ∧ pgOk s.2.2.1 ∧ (∀ p ∈ s.2.2.2.1, pgOk p) ∧ s.2.2.2.1.length ≤ 14 ∧ (∀ i p, s.2.2.2.2.1 i = some p → pgOk p) ∧ ovOk s.2.2.2.2.2.1
theorem kRt_ag {M M1 : mM} {a b : Nat} {sd : Int64} (h : kRt M sd) (hg : ag M M1 a b) (hx : 1 ≤ a) : kRt M1 sd := (hg _ (by omega)).trans h
section KC
variable {M M1 : mM} {t : tx} {l : lt} {p : pg} {a : List pg} {sl : Nat → Option pg} {v : ov} {sd : Int64}
theorem kC_tx {t1 : tx} (h : kC M (t, l, p, a, sl, v, sd)) (hg : ag M M1 1 3) (hn : kTx M1 t1) : kC M1 (t1, l, p, a, sl, v, sd) := by
  obtain ⟨h1, h2, h3, h4, ⟨p0, h5⟩, h6, h7, h8, o, h9⟩ := h
  exact ⟨kRt_ag h1 hg (by omega), hn, kLt_ag h3 hg (by omega), kP_ag h4 hg (by omega), ⟨p0, kP_ag h5 hg (by omega)⟩, kAc_ag h6 hg (by omega), kOv_ag h7 hg (by omega), kSl_ag h8 hg (by omega), o, kTm_ag h9 hg (by omega)⟩
theorem kC_lt {l1 : lt} (h : kC M (t, l, p, a, sl, v, sd)) (hg : ag M M1 3 8) (hn : kLt M1 l1) : kC M1 (t, l1, p, a, sl, v, sd) := by
  obtain ⟨h1, h2, h3, h4, ⟨p0, h5⟩, h6, h7, h8, o, h9⟩ := h
  exact ⟨kRt_ag h1 hg (by omega), kTx_ag h2 hg (by omega), hn, kP_ag h4 hg (by omega), ⟨p0, kP_ag h5 hg (by omega)⟩, kAc_ag h6 hg (by omega), kOv_ag h7 hg (by omega), kSl_ag h8 hg (by omega), o, kTm_ag h9 hg (by omega)⟩
theorem kC_pg {p1 : pg} (h : kC M (t, l, p, a, sl, v, sd)) (hg : ag M M1 8 11) (hn : kP M1 8 p1) : kC M1 (t, l, p1, a, sl, v, sd) := by
  obtain ⟨h1, h2, h3, h4, ⟨p0, h5⟩, h6, h7, h8, o, h9⟩ := h
  exact ⟨kRt_ag h1 hg (by omega), kTx_ag h2 hg (by omega), kLt_ag h3 hg (by omega), hn, ⟨p0, kP_ag h5 hg (by omega)⟩, kAc_ag h6 hg (by omega), kOv_ag h7 hg (by omega), kSl_ag h8 hg (by omega), o, kTm_ag h9 hg (by omega)⟩
theorem kC_tr {p1 : pg} (h : kC M (t, l, p, a, sl, v, sd)) (hg : ag M M1 11 14) (hn : kP M1 11 p1) : kC M1 (t, l, p, a, sl, v, sd) := by
  obtain ⟨h1, h2, h3, h4, ⟨p0, h5⟩, h6, h7, h8, o, h9⟩ := h
  exact ⟨kRt_ag h1 hg (by omega), kTx_ag h2 hg (by omega), kLt_ag h3 hg (by omega), kP_ag h4 hg (by omega), ⟨p1, hn⟩, kAc_ag h6 hg (by omega), kOv_ag h7 hg (by omega), kSl_ag h8 hg (by omega), o, kTm_ag h9 hg (by omega)⟩
theorem kC_ac {a1 : List pg} (h : kC M (t, l, p, a, sl, v, sd)) (hg : ag M M1 14 58) (hn : kAc M1 a1) : kC M1 (t, l, p, a1, sl, v, sd) := by
  obtain ⟨h1, h2, h3, h4, ⟨p0, h5⟩, h6, h7, h8, o, h9⟩ := h
  exact ⟨kRt_ag h1 hg (by omega), kTx_ag h2 hg (by omega), kLt_ag h3 hg (by omega), kP_ag h4 hg (by omega), ⟨p0, kP_ag h5 hg (by omega)⟩, hn, kOv_ag h7 hg (by omega), kSl_ag h8 hg (by omega), o, kTm_ag h9 hg (by omega)⟩
theorem kC_ov {v1 : ov} (h : kC M (t, l, p, a, sl, v, sd)) (hg : ag M M1 58 62) (hn : kOv M1 v1) : kC M1 (t, l, p, a, sl, v1, sd) := by
  obtain ⟨h1, h2, h3, h4, ⟨p0, h5⟩, h6, h7, h8, o, h9⟩ := h
  exact ⟨kRt_ag h1 hg (by omega), kTx_ag h2 hg (by omega), kLt_ag h3 hg (by omega), kP_ag h4 hg (by omega), ⟨p0, kP_ag h5 hg (by omega)⟩, kAc_ag h6 hg (by omega), hn, kSl_ag h8 hg (by omega), o, kTm_ag h9 hg (by omega)⟩
theorem kC_sl {s1 : Nat → Option pg} (h : kC M (t, l, p, a, sl, v, sd)) (hg : ag M M1 62 70) (hn : kSl M1 s1) : kC M1 (t, l, p, a, s1, v, sd) := by
  obtain ⟨h1, h2, h3, h4, ⟨p0, h5⟩, h6, h7, h8, o, h9⟩ := h
  exact ⟨kRt_ag h1 hg (by omega), kTx_ag h2 hg (by omega), kLt_ag h3 hg (by omega), kP_ag h4 hg (by omega), ⟨p0, kP_ag h5 hg (by omega)⟩, kAc_ag h6 hg (by omega), kOv_ag h7 hg (by omega), hn, o, kTm_ag h9 hg (by omega)⟩
theorem kC_tm {o1 : Nat → Nat} (h : kC M (t, l, p, a, sl, v, sd)) (hg : ag M M1 70 72) (hn : kTm M1 o1) : kC M1 (t, l, p, a, sl, v, sd) := by
  obtain ⟨h1, h2, h3, h4, ⟨p0, h5⟩, h6, h7, h8, o, h9⟩ := h
  exact ⟨kRt_ag h1 hg (by omega), kTx_ag h2 hg (by omega), kLt_ag h3 hg (by omega), kP_ag h4 hg (by omega), ⟨p0, kP_ag h5 hg (by omega)⟩, kAc_ag h6 hg (by omega), kOv_ag h7 hg (by omega), kSl_ag h8 hg (by omega), o1, hn⟩
theorem kC_sd {sd1 : Int64} (h : kC M (t, l, p, a, sl, v, sd)) (hg : ag M M1 0 1) (hn : kRt M1 sd1) : kC M1 (t, l, p, a, sl, v, sd1) := by
  obtain ⟨h1, h2, h3, h4, ⟨p0, h5⟩, h6, h7, h8, o, h9⟩ := h
  exact ⟨hn, kTx_ag h2 hg (by omega), kLt_ag h3 hg (by omega), kP_ag h4 hg (by omega), ⟨p0, kP_ag h5 hg (by omega)⟩, kAc_ag h6 hg (by omega), kOv_ag h7 hg (by omega), kSl_ag h8 hg (by omega), o, kTm_ag h9 hg (by omega)⟩
theorem kC_ua {M2 : mM} {q : pg} {a1 : List pg} (h : kC M (t, l, p, a, sl, v, sd)) (hg1 : ag M M1 14 58) (hg2 : ag M1 M2 8 11) (hn1 : kP M2 8 q) (hn2 : kAc M2 a1) : kC M2 (t, l, q, a1, sl, v, sd) := by
  obtain ⟨h1, h2, h3, h4, ⟨p0, h5⟩, h6, h7, h8, o, h9⟩ := h
  exact ⟨kRt_ag (kRt_ag h1 hg1 (by omega)) hg2 (by omega), kTx_ag (kTx_ag h2 hg1 (by omega)) hg2 (by omega), kLt_ag (kLt_ag h3 hg1 (by omega)) hg2 (by omega), hn1, ⟨p0, kP_ag (kP_ag h5 hg1 (by omega)) hg2 (by omega)⟩, hn2, kOv_ag (kOv_ag h7 hg1 (by omega)) hg2 (by omega), kSl_ag (kSl_ag h8 hg1 (by omega)) hg2 (by omega), o, kTm_ag (kTm_ag h9 hg1 (by omega)) hg2 (by omega)⟩
end KC
theorem inR_out {x : Int32} {n : Nat} (h : inR x n = false) : x.toInt < 0 ∨ (n : Int) ≤ x.toInt := by
  unfold inR at h
  have := of_decide_eq_false h
  omega
theorem inR_of {x : Int32} {n : Nat} (h : inR x n = true) (hn : n < 2 ^ 31) : ∃ j : Nat, j < n ∧ x = nI j := by
  rcases inR_cases x hn with ⟨-, h1⟩ | ⟨h1, -⟩
  · exact h1
  · rw [h] at h1; cases h1
theorem inR_no {x : Int32} {n : Nat} (h : inR x n = false) (hn : n < 2 ^ 31) : x < 0 ∨ (¬ x < 0 ∧ nI n ≤ x) := by
  rcases inR_cases x hn with ⟨h1, -⟩ | ⟨-, h1⟩
  · rw [h] at h1; cases h1
  · exact h1
theorem nI_lt_of_le {x : Int32} {n : Nat} (h : nI (n + 1) ≤ x) (hn : n + 1 < 2 ^ 31) : nI n < x := by
  rw [Int32.le_iff_toInt_le, nI_toInt hn] at h
  rw [Int32.lt_iff_toInt_lt, nI_toInt (by omega)]
  omega
/-! the answers -/
def a_write (s : cs) (x : Int32) : Int32 := if inR x 256 = true then (if s.1.1 < 40 then nI (s.1.1 + 1) else (-4)) else (-2)
def n_write (s : cs) (x : Int32) : cs := if inR x 256 = true ∧ s.1.1 < 40 then (txAdd s.1 x.toNatClampNeg, s.2) else s
def n_wipe (s : cs) : cs := ((0, s.1.2), s.2)
def frN (s h : Nat) : Nat := if h = 1 then s - 1 else if h = 2 then s + 1 else s
def tnN (m : Nat) : Nat → Nat
  | 0 => 0
  | b + 1 => tnN m b ||| m / 2 ^ b % 2 * 2 ^ (3 - b)
def mkN (m h : Nat) : Nat := if h = 3 then tnN m 4 else m
/-- the letters that a text tells -/
def ltOf (t : tx) : lt := ((t.1 - 1) / 5, fun l => t.2 (5 * l + 2) - 48, fun l => t.2 (5 * l + 5) - 48, fun l => frN (t.2 (5 * l + 4) - 48) (t.2 (5 * l + 5) - 48), fun l => mkN (t.2 (5 * l + 3) - 48) (t.2 (5 * l + 5) - 48) * 2 ^ (t.2 (5 * l + 2) - 48))
def a_office (s : cs) : Int32 := if fltN s.1 = none then nI ((s.1.1 - 1) / 5) else (-3)
def n_office (s : cs) : cs := if fltN s.1 = none then (s.1, ltOf s.1, pgNew 0, [], fun _ => none, s.2.2.2.2.2) else s
def a_about (s : cs) (x : Int32) : Int32 := if inR x 9 = true then (match x.toNatClampNeg with
  | 0 => nI s.2.1.1
  | 1 => s.2.2.1.2.2
  | 2 => nI (shN s.2.2.1.1 0)
  | 3 => nI (sN s.2.2.1.1 12)
  | 4 => nI (rdSet s.2.1 (shN s.2.2.1.1 0))
  | 5 => nI (topsN s.2.2.1)
  | 6 => nI s.2.2.2.1.length
  | 7 => nI s.2.2.2.2.2.1.1
  | _ => nI s.1.1) else (-2)
def a_letter (s : cs) (x y : Int32) : Int32 := if inR x s.2.1.1 = true then (if inR y 5 = true then (match y.toNatClampNeg with
  | 0 => nI (s.2.1.2.1 x.toNatClampNeg)
  | 1 => nI (s.2.1.2.2.1 x.toNatClampNeg)
  | 2 => nI (s.2.1.2.2.2.1 x.toNatClampNeg)
  | 3 => nI (s.2.1.2.2.2.2 x.toNatClampNeg)
  | _ => bI (rdN s.2.1 (shN s.2.2.1.1 0) x.toNatClampNeg)) else (-2)) else (-1)
def a_cell (s : cs) (x y : Int32) : Int32 := if inR x 12 = true then (if inR y 2 = true then (match y.toNatClampNeg with
  | 0 => nI (s.2.2.1.1 x.toNatClampNeg)
  | _ => tI (s.2.2.1.2.1 x.toNatClampNeg)) else (-2)) else (-2)
def prs (s : cs) (l : Nat) : pg := pgPress (s.2.1.2.2.2.2 l) (s.2.1.2.2.2.1 l) l s.2.2.1
def a_press (s : cs) (x : Int32) : Int32 := if inR x s.2.1.1 = true then nI (cnt (shN (prs s x.toNatClampNeg).1 0)) else (-1)
def n_press (s : cs) (x : Int32) : cs := if inR x s.2.1.1 = true then (s.1, s.2.1, prs s x.toNatClampNeg, actsAdd s.2.2.2.1 s.2.2.1, s.2.2.2.2) else s
def a_day (s : cs) : Int32 := (pgDay s.2.2.1).2.2
def n_day (s : cs) : cs := (s.1, s.2.1, pgDay s.2.2.1, actsAdd s.2.2.2.1 s.2.2.1, s.2.2.2.2)
def a_rub (s : cs) (x : Int32) : Int32 := if inR x 12 = true then (if s.2.2.1.1 x.toNatClampNeg = 0 then (-3) else nI (s.2.2.1.1 x.toNatClampNeg)) else (-2)
def n_rub (s : cs) (x : Int32) : cs := if inR x 12 = true ∧ s.2.2.1.1 x.toNatClampNeg ≠ 0 then (s.1, s.2.1, pgClean x.toNatClampNeg s.2.2.1, actsAdd s.2.2.2.1 s.2.2.1, s.2.2.2.2) else s
def a_change (s : cs) : Int32 := if shN s.2.2.1.1 0 = 0 then (-3) else nI (cnt (shN s.2.2.1.1 0))
def n_change (s : cs) : cs := if shN s.2.2.1.1 0 = 0 then s else (s.1, s.2.1, pgNew s.2.2.1.2.2, actsAdd s.2.2.2.1 s.2.2.1, s.2.2.2.2)
def a_undo (s : cs) : Int32 := if s.2.2.2.1 = [] then (-3) else nI (s.2.2.2.1.length - 1)
def n_undo (s : cs) : cs := match s.2.2.2.1.getLast? with
  | none => s
  | some p => (s.1, s.2.1, p, s.2.2.2.1.dropLast, s.2.2.2.2)
def a_later (s : cs) (x : Int32) : Int32 := if inR x 10 = true then nI (shN s.2.2.1.1 x.toNatClampNeg) else (-2)
def a_lasts (s : cs) (x : Int32) : Int32 := if inR x s.2.1.1 = true then nI ((lf (fun n => !rdN s.2.1 (shN s.2.2.1.1 n) x.toNatClampNeg) 9 0).getD 9) else (-1)
def a_shows (s : cs) (x : Int32) : Int32 := if inR x (2 ^ s.2.1.1) = true then nI (shBy s.2.1 x.toNatClampNeg) else (-2)
theorem shN_lt (ink : Nat → Nat) (n : Nat) : shN ink n < 4096 := bN_lt _ 12
section CLS
variable {M : mM} {P : Option Value → mM → Prop} {s : cs}
theorem C_write {x : Int32} (h : kC M s) (ho : cOk s) (hp : ∀ M1, ag M M1 0 72 → kC M1 (n_write s x) → P (some (.int (a_write s x))) M1) : Ev 88 7 mX7_write none 0 [.ref 0, .int x] [] M P := by
  obtain ⟨t, l, p, a, sl, v, sd⟩ := s
  obtain ⟨h0, h1, h2, h3, h11, h4, h5, h6, h7⟩ : kRt M sd ∧ kTx M t ∧ kLt M l ∧ kP M 8 p ∧ (∃ p, kP M 11 p) ∧ kAc M a ∧ kOv M v ∧ kSl M sl ∧ ∃ o, kTm M o := id h
  obtain ⟨o1, o2, o3, o4, o5, o6, o7⟩ : txOk t ∧ ltOk l ∧ pgOk p ∧ (∀ q ∈ a, pgOk q) ∧ a.length ≤ 14 ∧ (∀ i q, sl i = some q → pgOk q) ∧ ovOk v := ho
  unfold kRt at h0
  cases hx : inR x 256 with
  | true =>
    obtain ⟨j, hj, rfl⟩ := inR_of hx (by decide)
    have x1 := h1.1
    by_cases h40 : t.1 < 40
    · have e1 : a_write (t, l, p, a, sl, v, sd) (nI j) = nI (t.1 + 1) := by unfold a_write; rw [if_pos hx, if_pos h40]
      have e2 : n_write (t, l, p, a, sl, v, sd) (nI j) = (txAdd t j, l, p, a, sl, v, sd) := by unfold n_write; rw [if_pos ⟨hx, h40⟩, n_cl (by omega)]
      rw [e1, e2] at hp
      refine ev_iload_n (i := 1) dX7_write_0 rfl rfl ?_
      refine ev_if_ltN 11 dX7_write_1 (by decide) (by omega) (fun b1 => by exfalso; omega) (fun b1 => ?_)
      refine ev_iload_n (i := 1) dX7_write_4 rfl rfl ?_
      refine ev_sipush (v := nI 255) dX7_write_5 rfl ?_
      refine ev_icmp_leN 14 dX7_write_8 (by decide) (by omega) (by omega) (fun b8 => ?_) (fun b8 => by exfalso; omega)
      refine ev_aload_n (i := 0) dX7_write_14 rfl rfl ?_
      refine ev_getfield dX7_write_15 fX7_10 (by first | omega | decide) (by first | assumption | (simp (disch := omega) only [mu_s, mu_n]; first | assumption | rfl)) (by rfl) ?_
      refine ev_iload_n (i := 1) dX7_write_18 rfl rfl ?_
      refine ev_V1 (μ1 := mX5_append) dX7_write_19 sX7_65 okX5_append (by first | omega | decide) (by first | assumption | (simp (disch := omega) only [mu_s, mu_n]; first | assumption | rfl)) (Nat.le_of_ble_eq_true rfl) (Nat.le_of_ble_eq_true rfl) ?_
      refine c_append1 h1 o1 h40 (fun M1 ha hk => ?_)
      have x0 := (ha 0 (by omega)).trans h0
      have x9 := hk.1
      refine ev_if_eqB 35 dX7_write_22 (by decide) (fun b22 => by cases b22) (fun b22 => ?_)
      refine ev_aload_n (i := 0) dX7_write_25 rfl rfl ?_
      refine ev_getfield dX7_write_26 fX7_10 (by first | omega | decide) (by first | assumption | (simp (disch := omega) only [mu_s, mu_n]; first | assumption | rfl)) (by rfl) ?_
      refine ev_getfield dX7_write_29 fX7_69 (by first | omega | decide) (by first | assumption | (simp (disch := omega) only [mu_s, mu_n]; first | assumption | rfl)) (by rfl) ?_
      refine ev_goto 37 dX7_write_32 (by decide) ?_
      refine ev_reti dX7_write_37 rfl rfl ?_
      exact hp M1 (ag_wd ha) (kC_tx h ha hk)
    · have e1 : a_write (t, l, p, a, sl, v, sd) (nI j) = (-4) := by unfold a_write; rw [if_pos hx, if_neg h40]
      have e2 : n_write (t, l, p, a, sl, v, sd) (nI j) = (t, l, p, a, sl, v, sd) := by unfold n_write; rw [if_neg (fun z => h40 z.2)]
      rw [e1, e2] at hp
      refine ev_iload_n (i := 1) dX7_write_0 rfl rfl ?_
      refine ev_if_ltN 11 dX7_write_1 (by decide) (by omega) (fun b1 => by exfalso; omega) (fun b1 => ?_)
      refine ev_iload_n (i := 1) dX7_write_4 rfl rfl ?_
      refine ev_sipush (v := nI 255) dX7_write_5 rfl ?_
      refine ev_icmp_leN 14 dX7_write_8 (by decide) (by omega) (by omega) (fun b8 => ?_) (fun b8 => by exfalso; omega)
      refine ev_aload_n (i := 0) dX7_write_14 rfl rfl ?_
      refine ev_getfield dX7_write_15 fX7_10 (by first | omega | decide) (by first | assumption | (simp (disch := omega) only [mu_s, mu_n]; first | assumption | rfl)) (by rfl) ?_
      refine ev_iload_n (i := 1) dX7_write_18 rfl rfl ?_
      refine ev_V1 (μ1 := mX5_append) dX7_write_19 sX7_65 okX5_append (by first | omega | decide) (by first | assumption | (simp (disch := omega) only [mu_s, mu_n]; first | assumption | rfl)) (Nat.le_of_ble_eq_true rfl) (Nat.le_of_ble_eq_true rfl) ?_
      refine c_append h1 o1 ?_ h40
      refine ev_if_eqB 35 dX7_write_22 (by decide) (fun b22 => ?_) (fun b22 => by cases b22)
      refine ev_bipush (v := (-4)) dX7_write_35 rfl ?_
      refine ev_reti dX7_write_37 rfl rfl ?_
      exact hp M (ag_rf M _ _) h
  | false =>
    have e1 : a_write (t, l, p, a, sl, v, sd) x = (-2) := by unfold a_write; rw [hx]; rfl
    have e2 : n_write (t, l, p, a, sl, v, sd) x = (t, l, p, a, sl, v, sd) := by unfold n_write; rw [if_neg (fun z => by rw [hx] at z; cases z.1)]
    rw [e1, e2] at hp
    rcases inR_no hx (by decide) with hx1 | ⟨hx1, hx2⟩
    · skip
      refine ev_iload_n (i := 1) dX7_write_0 rfl rfl ?_
      refine ev_if_lt 11 dX7_write_1 (by decide) (fun b1 => ?_) (fun b1 => absurd hx1 b1)
      refine ev_bipush (v := (-2)) dX7_write_11 rfl ?_
      refine ev_reti dX7_write_13 rfl rfl ?_
      exact hp M (ag_rf M _ _) h
    · have hx3 : ¬ x ≤ nI 255 := Int32.not_le.mpr (nI_lt_of_le hx2 (by decide))
      refine ev_iload_n (i := 1) dX7_write_0 rfl rfl ?_
      refine ev_if_lt 11 dX7_write_1 (by decide) (fun b1 => absurd b1 hx1) (fun b1 => ?_)
      refine ev_iload_n (i := 1) dX7_write_4 rfl rfl ?_
      refine ev_sipush (v := nI 255) dX7_write_5 rfl ?_
      refine ev_icmp_le 14 dX7_write_8 (by decide) (fun b8 => absurd b8 hx3) (fun b8 => ?_)
      refine ev_bipush (v := (-2)) dX7_write_11 rfl ?_
      refine ev_reti dX7_write_13 rfl rfl ?_
      exact hp M (ag_rf M _ _) h
theorem C_wipe (h : kC M s) (ho : cOk s) (hp : ∀ M1, ag M M1 0 72 → kC M1 (n_wipe s) → P (some (.int (nI s.1.1))) M1) : Ev 88 7 mX7_wipe none 0 [.ref 0, .null] [] M P := by
  obtain ⟨t, l, p, a, sl, v, sd⟩ := s
  obtain ⟨h0, h1, h2, h3, h11, h4, h5, h6, h7⟩ : kRt M sd ∧ kTx M t ∧ kLt M l ∧ kP M 8 p ∧ (∃ p, kP M 11 p) ∧ kAc M a ∧ kOv M v ∧ kSl M sl ∧ ∃ o, kTm M o := id h
  obtain ⟨o1, o2, o3, o4, o5, o6, o7⟩ : txOk t ∧ ltOk l ∧ pgOk p ∧ (∀ q ∈ a, pgOk q) ∧ a.length ≤ 14 ∧ (∀ i q, sl i = some q → pgOk q) ∧ ovOk v := ho
  obtain ⟨g1, f, g2, g3⟩ := h1
  unfold kRt at h0
  refine ev_aload_n (i := 0) dX7_wipe_0 rfl rfl ?_
  refine ev_getfield dX7_wipe_1 fX7_10 (by first | omega | decide) (by first | assumption | (simp (disch := omega) only [mu_s, mu_n]; first | assumption | rfl)) (by rfl) ?_
  refine ev_getfield dX7_wipe_4 fX7_69 (by first | omega | decide) (by first | assumption | (simp (disch := omega) only [mu_s, mu_n]; first | assumption | rfl)) (by rfl) ?_
  refine ev_istore_n (i := 1) dX7_wipe_7 rfl (by decide) rfl ?_
  refine ev_aload_n (i := 0) dX7_wipe_8 rfl rfl ?_
  refine ev_getfield dX7_wipe_9 fX7_10 (by first | omega | decide) (by first | assumption | (simp (disch := omega) only [mu_s, mu_n]; first | assumption | rfl)) (by rfl) ?_
  refine ev_iconst (v := nI 0) dX7_wipe_12 rfl ?_
  refine ev_putI dX7_wipe_13 fwX7_69 (by first | omega | decide) (by first | assumption | (simp (disch := omega) only [mu_s, mu_n]; first | assumption | rfl)) (Nat.le_of_ble_eq_true rfl) ?_
  refine ev_iload_n (i := 1) dX7_wipe_16 rfl rfl ?_
  refine ev_reti dX7_wipe_17 rfl rfl ?_
  exact hp _ (ag_mu (ag_rf M _ _) (by omega) (by omega)) (kC_tx h (ag_mu (ag_rf M _ _) (by omega) (by omega)) ⟨mu_s _ _ _, f, (mu_n (by omega)).trans g2, fun j hj => absurd hj (Nat.not_lt_zero j)⟩)
theorem C_fault (h : kC M s) (ho : cOk s) (hp : P (some (.int (oI (fltN s.1)))) M) : Ev 88 7 mX7_fault none 0 [.ref 0] [] M P := by
  obtain ⟨t, l, p, a, sl, v, sd⟩ := s
  obtain ⟨h0, h1, h2, h3, h11, h4, h5, h6, h7⟩ : kRt M sd ∧ kTx M t ∧ kLt M l ∧ kP M 8 p ∧ (∃ p, kP M 11 p) ∧ kAc M a ∧ kOv M v ∧ kSl M sl ∧ ∃ o, kTm M o := id h
  obtain ⟨o1, o2, o3, o4, o5, o6, o7⟩ : txOk t ∧ ltOk l ∧ pgOk p ∧ (∀ q ∈ a, pgOk q) ∧ a.length ≤ 14 ∧ (∀ i q, sl i = some q → pgOk q) ∧ ovOk v := ho
  have x1 := h1.1
  unfold kRt at h0
  refine ev_aload_n (i := 0) dX7_fault_0 rfl rfl ?_
  refine ev_getfield dX7_fault_1 fX7_10 (by first | omega | decide) (by first | assumption | (simp (disch := omega) only [mu_s, mu_n]; first | assumption | rfl)) (by rfl) ?_
  refine ev_V0 (μ1 := mX5_firstFault) dX7_fault_4 sX7_73 okX5_firstFault (by first | omega | decide) (by first | assumption | (simp (disch := omega) only [mu_s, mu_n]; first | assumption | rfl)) (Nat.le_of_ble_eq_true rfl) (Nat.le_of_ble_eq_true rfl) ?_
  refine c_firstFault h1 o1 ?_
  refine ev_reti dX7_fault_7 rfl rfl ?_
  exact hp

theorem C_about {x : Int32} (h : kC M s) (ho : cOk s) (hp : P (some (.int (a_about s x))) M) : Ev 88 7 mX7_about none 0 [.ref 0, .int x] [] M P := by
  obtain ⟨t, l, p, a, sl, v, sd⟩ := s
  obtain ⟨h0, h1, h2, h3, h11, h4, h5, h6, h7⟩ : kRt M sd ∧ kTx M t ∧ kLt M l ∧ kP M 8 p ∧ (∃ p, kP M 11 p) ∧ kAc M a ∧ kOv M v ∧ kSl M sl ∧ ∃ o, kTm M o := id h
  obtain ⟨o1, o2, o3, o4, o5, o6, o7⟩ : txOk t ∧ ltOk l ∧ pgOk p ∧ (∀ q ∈ a, pgOk q) ∧ a.length ≤ 14 ∧ (∀ i q, sl i = some q → pgOk q) ∧ ovOk v := ho
  have x1 := h1.1
  have x2 := h2.1
  obtain ⟨fi, g, x4, -⟩ := id h4
  have x5 := h5.1
  obtain ⟨f3, g3, x3, -⟩ := id h3
  have x3a := x3.1
  unfold kRt at h0
  unfold a_about at hp
  cases hx : inR x 9 with
  | true =>
    rw [if_pos hx] at hp
    obtain ⟨j, hj, rfl⟩ := inR_of hx (by decide)
    rw [n_cl (by omega)] at hp
    rcases (show j = 0 ∨ j = 1 ∨ j = 2 ∨ j = 3 ∨ j = 4 ∨ j = 5 ∨ j = 6 ∨ j = 7 ∨ j = 8 by omega) with rfl | rfl | rfl | rfl | rfl | rfl | rfl | rfl | rfl
    · skip
      refine ev_iload_n (i := 1) dX7_about_0 rfl rfl ?_
      refine ev_tsw_in (off := 51) 52 dX7_about_1 (by decide) (by decide) (by decide) (by decide) ?_
      refine ev_aload_n (i := 0) dX7_about_52 rfl rfl ?_
      refine ev_getfield dX7_about_53 fX7_19 (by first | omega | decide) (by first | assumption | (simp (disch := omega) only [mu_s, mu_n]; first | assumption | rfl)) (by rfl) ?_
      refine ev_getfield dX7_about_56 fX7_90 (by first | omega | decide) (by first | assumption | (simp (disch := omega) only [mu_s, mu_n]; first | assumption | rfl)) (by rfl) ?_
      refine ev_reti dX7_about_59 rfl rfl ?_
      exact hp
    · skip
      refine ev_iload_n (i := 1) dX7_about_0 rfl rfl ?_
      refine ev_tsw_in (off := 59) 60 dX7_about_1 (by decide) (by decide) (by decide) (by decide) ?_
      refine ev_aload_n (i := 0) dX7_about_60 rfl rfl ?_
      refine ev_getfield dX7_about_61 fX7_26 (by first | omega | decide) (by first | assumption | (simp (disch := omega) only [mu_s, mu_n]; first | assumption | rfl)) (by rfl) ?_
      refine ev_getfield dX7_about_64 fX7_83 (by first | omega | decide) (by first | assumption | (simp (disch := omega) only [mu_s, mu_n]; first | assumption | rfl)) (by rfl) ?_
      refine ev_reti dX7_about_67 rfl rfl ?_
      exact hp
    · skip
      refine ev_iload_n (i := 1) dX7_about_0 rfl rfl ?_
      refine ev_tsw_in (off := 67) 68 dX7_about_1 (by decide) (by decide) (by decide) (by decide) ?_
      refine ev_aload_n (i := 0) dX7_about_68 rfl rfl ?_
      refine ev_getfield dX7_about_69 fX7_26 (by first | omega | decide) (by first | assumption | (simp (disch := omega) only [mu_s, mu_n]; first | assumption | rfl)) (by rfl) ?_
      refine ev_iconst (v := nI 0) dX7_about_72 rfl ?_
      refine ev_V1 (μ1 := mX3_shownIn) dX7_about_73 sX7_93 okX3_shownIn (by first | omega | decide) (by first | assumption | (simp (disch := omega) only [mu_s, mu_n]; first | assumption | rfl)) (Nat.le_of_ble_eq_true rfl) (Nat.le_of_ble_eq_true rfl) ?_
      refine q_shownIn (by omega) h3 o3 (by decide) ?_
      refine ev_reti dX7_about_76 rfl rfl ?_
      exact hp
    · skip
      refine ev_iload_n (i := 1) dX7_about_0 rfl rfl ?_
      refine ev_tsw_in (off := 76) 77 dX7_about_1 (by decide) (by decide) (by decide) (by decide) ?_
      refine ev_aload_n (i := 0) dX7_about_77 rfl rfl ?_
      refine ev_getfield dX7_about_78 fX7_26 (by first | omega | decide) (by first | assumption | (simp (disch := omega) only [mu_s, mu_n]; first | assumption | rfl)) (by rfl) ?_
      refine ev_V0 (μ1 := mX3_allInk) dX7_about_81 sX7_97 okX3_allInk (by first | omega | decide) (by first | assumption | (simp (disch := omega) only [mu_s, mu_n]; first | assumption | rfl)) (Nat.le_of_ble_eq_true rfl) (Nat.le_of_ble_eq_true rfl) ?_
      refine q_allInk (by omega) h3 ?_
      refine ev_reti dX7_about_84 rfl rfl ?_
      exact hp
    · skip
      refine ev_iload_n (i := 1) dX7_about_0 rfl rfl ?_
      refine ev_tsw_in (off := 84) 85 dX7_about_1 (by decide) (by decide) (by decide) (by decide) ?_
      refine ev_aload_n (i := 0) dX7_about_85 rfl rfl ?_
      refine ev_getfield dX7_about_86 fX7_19 (by first | omega | decide) (by first | assumption | (simp (disch := omega) only [mu_s, mu_n]; first | assumption | rfl)) (by rfl) ?_
      refine ev_aload_n (i := 0) dX7_about_89 rfl rfl ?_
      refine ev_getfield dX7_about_90 fX7_26 (by first | omega | decide) (by first | assumption | (simp (disch := omega) only [mu_s, mu_n]; first | assumption | rfl)) (by rfl) ?_
      refine ev_iconst (v := nI 0) dX7_about_93 rfl ?_
      refine ev_V1 (μ1 := mX3_shownIn) dX7_about_94 sX7_93 okX3_shownIn (by first | omega | decide) (by first | assumption | (simp (disch := omega) only [mu_s, mu_n]; first | assumption | rfl)) (Nat.le_of_ble_eq_true rfl) (Nat.le_of_ble_eq_true rfl) ?_
      refine q_shownIn (by omega) h3 o3 (by decide) ?_
      refine ev_V1 (μ1 := mX1_readable) dX7_about_97 sX7_100 okX1_readable (by first | omega | decide) (by first | assumption | (simp (disch := omega) only [mu_s, mu_n]; first | assumption | rfl)) (Nat.le_of_ble_eq_true rfl) (Nat.le_of_ble_eq_true rfl) ?_
      refine c_X1_readable h2 o2 ?_
      refine ev_reti dX7_about_100 rfl rfl ?_
      exact hp
    · skip
      refine ev_iload_n (i := 1) dX7_about_0 rfl rfl ?_
      refine ev_tsw_in (off := 100) 101 dX7_about_1 (by decide) (by decide) (by decide) (by decide) ?_
      refine ev_aload_n (i := 0) dX7_about_101 rfl rfl ?_
      refine ev_getfield dX7_about_102 fX7_26 (by first | omega | decide) (by first | assumption | (simp (disch := omega) only [mu_s, mu_n]; first | assumption | rfl)) (by rfl) ?_
      refine ev_V0 (μ1 := mX3_onTop) dX7_about_105 sX7_103 okX3_onTop (by first | omega | decide) (by first | assumption | (simp (disch := omega) only [mu_s, mu_n]; first | assumption | rfl)) (Nat.le_of_ble_eq_true rfl) (Nat.le_of_ble_eq_true rfl) ?_
      refine q_onTop (by omega) h3 o3 ?_
      refine ev_reti dX7_about_108 rfl rfl ?_
      exact hp
    · skip
      refine ev_iload_n (i := 1) dX7_about_0 rfl rfl ?_
      refine ev_tsw_in (off := 108) 109 dX7_about_1 (by decide) (by decide) (by decide) (by decide) ?_
      refine ev_aload_n (i := 0) dX7_about_109 rfl rfl ?_
      refine ev_getfield dX7_about_110 fX7_36 (by first | omega | decide) (by first | assumption | (simp (disch := omega) only [mu_s, mu_n]; first | assumption | rfl)) (by rfl) ?_
      refine ev_getfield dX7_about_113 fX7_106 (by first | omega | decide) (by first | assumption | (simp (disch := omega) only [mu_s, mu_n]; first | assumption | rfl)) (by rfl) ?_
      refine ev_reti dX7_about_116 rfl rfl ?_
      exact hp
    · skip
      refine ev_iload_n (i := 1) dX7_about_0 rfl rfl ?_
      refine ev_tsw_in (off := 116) 117 dX7_about_1 (by decide) (by decide) (by decide) (by decide) ?_
      refine ev_aload_n (i := 0) dX7_about_117 rfl rfl ?_
      refine ev_getfield dX7_about_118 fX7_43 (by first | omega | decide) (by first | assumption | (simp (disch := omega) only [mu_s, mu_n]; first | assumption | rfl)) (by rfl) ?_
      refine ev_getfield dX7_about_121 fX7_107 (by first | omega | decide) (by first | assumption | (simp (disch := omega) only [mu_s, mu_n]; first | assumption | rfl)) (by rfl) ?_
      refine ev_reti dX7_about_124 rfl rfl ?_
      exact hp
    · skip
      refine ev_iload_n (i := 1) dX7_about_0 rfl rfl ?_
      refine ev_tsw_in (off := 124) 125 dX7_about_1 (by decide) (by decide) (by decide) (by decide) ?_
      refine ev_aload_n (i := 0) dX7_about_125 rfl rfl ?_
      refine ev_getfield dX7_about_126 fX7_10 (by first | omega | decide) (by first | assumption | (simp (disch := omega) only [mu_s, mu_n]; first | assumption | rfl)) (by rfl) ?_
      refine ev_getfield dX7_about_129 fX7_69 (by first | omega | decide) (by first | assumption | (simp (disch := omega) only [mu_s, mu_n]; first | assumption | rfl)) (by rfl) ?_
      refine ev_reti dX7_about_132 rfl rfl ?_
      exact hp
  | false =>
    rw [hx, if_neg (by decide)] at hp
    refine ev_iload_n (i := 1) dX7_about_0 rfl rfl ?_
    refine ev_tsw_out 133 dX7_about_1 (by have := inR_out hx; omega) (by decide) ?_
    refine ev_bipush (v := (-2)) dX7_about_133 rfl ?_
    refine ev_reti dX7_about_135 rfl rfl ?_
    exact hp
theorem C_letter {x y : Int32} (h : kC M s) (ho : cOk s) (hp : P (some (.int (a_letter s x y))) M) : Ev 88 7 mX7_letter none 0 [.ref 0, .int x, .int y] [] M P := by
  obtain ⟨t, l, p, a, sl, v, sd⟩ := s
  obtain ⟨h0, h1, h2, h3, h11, h4, h5, h6, h7⟩ : kRt M sd ∧ kTx M t ∧ kLt M l ∧ kP M 8 p ∧ (∃ p, kP M 11 p) ∧ kAc M a ∧ kOv M v ∧ kSl M sl ∧ ∃ o, kTm M o := id h
  obtain ⟨o1, o2, o3, o4, o5, o6, o7⟩ : txOk t ∧ ltOk l ∧ pgOk p ∧ (∀ q ∈ a, pgOk q) ∧ a.length ≤ 14 ∧ (∀ i q, sl i = some q → pgOk q) ∧ ovOk v := ho
  have x2 := h2.1
  obtain ⟨f3, g3, x3, -⟩ := id h3
  have x3a := x3.1
  have hl6 : l.1 ≤ 6 := o2.1
  unfold kRt at h0
  unfold a_letter at hp
  cases hx : inR x l.1 with
  | true =>
    rw [if_pos hx] at hp
    obtain ⟨i, hi, rfl⟩ := inR_of hx (by omega)
    have hcl : (nI i).toNatClampNeg = i := n_cl (by omega)
    rw [hcl] at hp
    cases hy : inR y 5 with
    | true =>
      rw [if_pos hy] at hp
      obtain ⟨j, hj, rfl⟩ := inR_of hy (by decide)
      rw [n_cl (by omega)] at hp
      rcases (show j = 0 ∨ j = 1 ∨ j = 2 ∨ j = 3 ∨ j = 4 by omega) with rfl | rfl | rfl | rfl | rfl
      · skip
        refine ev_aload_n (i := 0) dX7_letter_0 rfl rfl ?_
        refine ev_getfield dX7_letter_1 fX7_19 (by first | omega | decide) (by first | assumption | (simp (disch := omega) only [mu_s, mu_n]; first | assumption | rfl)) (by rfl) ?_
        refine ev_iload_n (i := 1) dX7_letter_4 rfl rfl ?_
        refine ev_V1 (μ1 := mX1_has) dX7_letter_5 sX7_108 okX1_has (by first | omega | decide) (by first | assumption | (simp (disch := omega) only [mu_s, mu_n]; first | assumption | rfl)) (Nat.le_of_ble_eq_true rfl) (Nat.le_of_ble_eq_true rfl) ?_
        refine c_X1_has h2 o2 ?_
        refine ev_if_neB 13 dX7_letter_8 (by decide) (fun b8 => ?_) (fun b8 => by rw [hx] at b8; cases b8)
        refine ev_iload_n (i := 2) dX7_letter_13 rfl rfl ?_
        refine ev_tsw_in (off := 34) 48 dX7_letter_14 (by decide) (by decide) (by decide) (by decide) ?_
        refine ev_aload_n (i := 0) dX7_letter_48 rfl rfl ?_
        refine ev_getfield dX7_letter_49 fX7_19 (by first | omega | decide) (by first | assumption | (simp (disch := omega) only [mu_s, mu_n]; first | assumption | rfl)) (by rfl) ?_
        refine ev_iload_n (i := 1) dX7_letter_52 rfl rfl ?_
        refine ev_V1 (μ1 := mX1_placeOf) dX7_letter_53 sX7_111 okX1_placeOf (by first | omega | decide) (by first | assumption | (simp (disch := omega) only [mu_s, mu_n]; first | assumption | rfl)) (Nat.le_of_ble_eq_true rfl) (Nat.le_of_ble_eq_true rfl) ?_
        refine c_X1_placeOf h2 o2 hi ?_
        refine ev_reti dX7_letter_56 rfl rfl ?_
        exact hp
      · skip
        refine ev_aload_n (i := 0) dX7_letter_0 rfl rfl ?_
        refine ev_getfield dX7_letter_1 fX7_19 (by first | omega | decide) (by first | assumption | (simp (disch := omega) only [mu_s, mu_n]; first | assumption | rfl)) (by rfl) ?_
        refine ev_iload_n (i := 1) dX7_letter_4 rfl rfl ?_
        refine ev_V1 (μ1 := mX1_has) dX7_letter_5 sX7_108 okX1_has (by first | omega | decide) (by first | assumption | (simp (disch := omega) only [mu_s, mu_n]; first | assumption | rfl)) (Nat.le_of_ble_eq_true rfl) (Nat.le_of_ble_eq_true rfl) ?_
        refine c_X1_has h2 o2 ?_
        refine ev_if_neB 13 dX7_letter_8 (by decide) (fun b8 => ?_) (fun b8 => by rw [hx] at b8; cases b8)
        refine ev_iload_n (i := 2) dX7_letter_13 rfl rfl ?_
        refine ev_tsw_in (off := 43) 57 dX7_letter_14 (by decide) (by decide) (by decide) (by decide) ?_
        refine ev_aload_n (i := 0) dX7_letter_57 rfl rfl ?_
        refine ev_getfield dX7_letter_58 fX7_19 (by first | omega | decide) (by first | assumption | (simp (disch := omega) only [mu_s, mu_n]; first | assumption | rfl)) (by rfl) ?_
        refine ev_iload_n (i := 1) dX7_letter_61 rfl rfl ?_
        refine ev_V1 (μ1 := mX1_handOf) dX7_letter_62 sX7_114 okX1_handOf (by first | omega | decide) (by first | assumption | (simp (disch := omega) only [mu_s, mu_n]; first | assumption | rfl)) (Nat.le_of_ble_eq_true rfl) (Nat.le_of_ble_eq_true rfl) ?_
        refine c_X1_handOf h2 o2 hi ?_
        refine ev_reti dX7_letter_65 rfl rfl ?_
        exact hp
      · skip
        refine ev_aload_n (i := 0) dX7_letter_0 rfl rfl ?_
        refine ev_getfield dX7_letter_1 fX7_19 (by first | omega | decide) (by first | assumption | (simp (disch := omega) only [mu_s, mu_n]; first | assumption | rfl)) (by rfl) ?_
        refine ev_iload_n (i := 1) dX7_letter_4 rfl rfl ?_
        refine ev_V1 (μ1 := mX1_has) dX7_letter_5 sX7_108 okX1_has (by first | omega | decide) (by first | assumption | (simp (disch := omega) only [mu_s, mu_n]; first | assumption | rfl)) (Nat.le_of_ble_eq_true rfl) (Nat.le_of_ble_eq_true rfl) ?_
        refine c_X1_has h2 o2 ?_
        refine ev_if_neB 13 dX7_letter_8 (by decide) (fun b8 => ?_) (fun b8 => by rw [hx] at b8; cases b8)
        refine ev_iload_n (i := 2) dX7_letter_13 rfl rfl ?_
        refine ev_tsw_in (off := 52) 66 dX7_letter_14 (by decide) (by decide) (by decide) (by decide) ?_
        refine ev_aload_n (i := 0) dX7_letter_66 rfl rfl ?_
        refine ev_getfield dX7_letter_67 fX7_19 (by first | omega | decide) (by first | assumption | (simp (disch := omega) only [mu_s, mu_n]; first | assumption | rfl)) (by rfl) ?_
        refine ev_iload_n (i := 1) dX7_letter_70 rfl rfl ?_
        refine ev_V1 (μ1 := mX1_forceOf) dX7_letter_71 sX7_117 okX1_forceOf (by first | omega | decide) (by first | assumption | (simp (disch := omega) only [mu_s, mu_n]; first | assumption | rfl)) (Nat.le_of_ble_eq_true rfl) (Nat.le_of_ble_eq_true rfl) ?_
        refine c_X1_forceOf h2 o2 hi ?_
        refine ev_reti dX7_letter_74 rfl rfl ?_
        exact hp
      · skip
        refine ev_aload_n (i := 0) dX7_letter_0 rfl rfl ?_
        refine ev_getfield dX7_letter_1 fX7_19 (by first | omega | decide) (by first | assumption | (simp (disch := omega) only [mu_s, mu_n]; first | assumption | rfl)) (by rfl) ?_
        refine ev_iload_n (i := 1) dX7_letter_4 rfl rfl ?_
        refine ev_V1 (μ1 := mX1_has) dX7_letter_5 sX7_108 okX1_has (by first | omega | decide) (by first | assumption | (simp (disch := omega) only [mu_s, mu_n]; first | assumption | rfl)) (Nat.le_of_ble_eq_true rfl) (Nat.le_of_ble_eq_true rfl) ?_
        refine c_X1_has h2 o2 ?_
        refine ev_if_neB 13 dX7_letter_8 (by decide) (fun b8 => ?_) (fun b8 => by rw [hx] at b8; cases b8)
        refine ev_iload_n (i := 2) dX7_letter_13 rfl rfl ?_
        refine ev_tsw_in (off := 61) 75 dX7_letter_14 (by decide) (by decide) (by decide) (by decide) ?_
        refine ev_aload_n (i := 0) dX7_letter_75 rfl rfl ?_
        refine ev_getfield dX7_letter_76 fX7_19 (by first | omega | decide) (by first | assumption | (simp (disch := omega) only [mu_s, mu_n]; first | assumption | rfl)) (by rfl) ?_
        refine ev_iload_n (i := 1) dX7_letter_79 rfl rfl ?_
        refine ev_V1 (μ1 := mX1_cellsOf) dX7_letter_80 sX7_120 okX1_cellsOf (by first | omega | decide) (by first | assumption | (simp (disch := omega) only [mu_s, mu_n]; first | assumption | rfl)) (Nat.le_of_ble_eq_true rfl) (Nat.le_of_ble_eq_true rfl) ?_
        refine c_X1_cellsOf h2 o2 hi ?_
        refine ev_reti dX7_letter_83 rfl rfl ?_
        exact hp
      · skip
        refine ev_aload_n (i := 0) dX7_letter_0 rfl rfl ?_
        refine ev_getfield dX7_letter_1 fX7_19 (by first | omega | decide) (by first | assumption | (simp (disch := omega) only [mu_s, mu_n]; first | assumption | rfl)) (by rfl) ?_
        refine ev_iload_n (i := 1) dX7_letter_4 rfl rfl ?_
        refine ev_V1 (μ1 := mX1_has) dX7_letter_5 sX7_108 okX1_has (by first | omega | decide) (by first | assumption | (simp (disch := omega) only [mu_s, mu_n]; first | assumption | rfl)) (Nat.le_of_ble_eq_true rfl) (Nat.le_of_ble_eq_true rfl) ?_
        refine c_X1_has h2 o2 ?_
        refine ev_if_neB 13 dX7_letter_8 (by decide) (fun b8 => ?_) (fun b8 => by rw [hx] at b8; cases b8)
        refine ev_iload_n (i := 2) dX7_letter_13 rfl rfl ?_
        refine ev_tsw_in (off := 70) 84 dX7_letter_14 (by decide) (by decide) (by decide) (by decide) ?_
        refine ev_aload_n (i := 0) dX7_letter_84 rfl rfl ?_
        refine ev_getfield dX7_letter_85 fX7_19 (by first | omega | decide) (by first | assumption | (simp (disch := omega) only [mu_s, mu_n]; first | assumption | rfl)) (by rfl) ?_
        refine ev_iload_n (i := 1) dX7_letter_88 rfl rfl ?_
        refine ev_aload_n (i := 0) dX7_letter_89 rfl rfl ?_
        refine ev_getfield dX7_letter_90 fX7_26 (by first | omega | decide) (by first | assumption | (simp (disch := omega) only [mu_s, mu_n]; first | assumption | rfl)) (by rfl) ?_
        refine ev_iconst (v := nI 0) dX7_letter_93 rfl ?_
        refine ev_V1 (μ1 := mX3_shownIn) dX7_letter_94 sX7_93 okX3_shownIn (by first | omega | decide) (by first | assumption | (simp (disch := omega) only [mu_s, mu_n]; first | assumption | rfl)) (Nat.le_of_ble_eq_true rfl) (Nat.le_of_ble_eq_true rfl) ?_
        refine q_shownIn (by omega) h3 o3 (by decide) ?_
        refine ev_V2 (μ1 := mX1_canBeRead) dX7_letter_97 sX7_123 okX1_canBeRead (by first | omega | decide) (by first | assumption | (simp (disch := omega) only [mu_s, mu_n]; first | assumption | rfl)) (Nat.le_of_ble_eq_true rfl) (Nat.le_of_ble_eq_true rfl) ?_
        refine c_X1_canBeRead h2 o2 hi ?_
        refine ev_if_eqB 107 dX7_letter_100 (by decide) (fun b100 => ?_) (fun b100 => ?_)
        · skip
          refine ev_iconst (v := nI 0) dX7_letter_107 rfl ?_
          refine ev_reti dX7_letter_108 rfl rfl ?_
          first
          | (have q : rdN l (shN p.1 0) i = true := b100
             exact e_retT q hp)
          | (have q : rdN l (shN p.1 0) i = false := b100
             exact e_retF q hp)
        · skip
          refine ev_iconst (v := nI 1) dX7_letter_103 rfl ?_
          refine ev_goto 108 dX7_letter_104 (by decide) ?_
          refine ev_reti dX7_letter_108 rfl rfl ?_
          first
          | (have q : rdN l (shN p.1 0) i = true := b100
             exact e_retT q hp)
          | (have q : rdN l (shN p.1 0) i = false := b100
             exact e_retF q hp)
    | false =>
      rw [hy, if_neg (by decide)] at hp
      refine ev_aload_n (i := 0) dX7_letter_0 rfl rfl ?_
      refine ev_getfield dX7_letter_1 fX7_19 (by first | omega | decide) (by first | assumption | (simp (disch := omega) only [mu_s, mu_n]; first | assumption | rfl)) (by rfl) ?_
      refine ev_iload_n (i := 1) dX7_letter_4 rfl rfl ?_
      refine ev_V1 (μ1 := mX1_has) dX7_letter_5 sX7_108 okX1_has (by first | omega | decide) (by first | assumption | (simp (disch := omega) only [mu_s, mu_n]; first | assumption | rfl)) (Nat.le_of_ble_eq_true rfl) (Nat.le_of_ble_eq_true rfl) ?_
      refine c_X1_has h2 o2 ?_
      refine ev_if_neB 13 dX7_letter_8 (by decide) (fun b8 => ?_) (fun b8 => by rw [hx] at b8; cases b8)
      refine ev_iload_n (i := 2) dX7_letter_13 rfl rfl ?_
      refine ev_tsw_out 109 dX7_letter_14 (by have := inR_out hy; omega) (by decide) ?_
      refine ev_bipush (v := (-2)) dX7_letter_109 rfl ?_
      refine ev_reti dX7_letter_111 rfl rfl ?_
      exact hp
  | false =>
    rw [hx, if_neg (by decide)] at hp
    refine ev_aload_n (i := 0) dX7_letter_0 rfl rfl ?_
    refine ev_getfield dX7_letter_1 fX7_19 (by first | omega | decide) (by first | assumption | (simp (disch := omega) only [mu_s, mu_n]; first | assumption | rfl)) (by rfl) ?_
    refine ev_iload_n (i := 1) dX7_letter_4 rfl rfl ?_
    refine ev_V1 (μ1 := mX1_has) dX7_letter_5 sX7_108 okX1_has (by first | omega | decide) (by first | assumption | (simp (disch := omega) only [mu_s, mu_n]; first | assumption | rfl)) (Nat.le_of_ble_eq_true rfl) (Nat.le_of_ble_eq_true rfl) ?_
    refine c_X1_has h2 o2 ?_
    refine ev_if_neB 13 dX7_letter_8 (by decide) (fun b8 => by rw [hx] at b8; cases b8) (fun b8 => ?_)
    refine ev_iconst (v := (-1)) dX7_letter_11 rfl ?_
    refine ev_reti dX7_letter_12 rfl rfl ?_
    exact hp
theorem C_cell {x y : Int32} (h : kC M s) (ho : cOk s) (hp : P (some (.int (a_cell s x y))) M) : Ev 88 7 mX7_cell none 0 [.ref 0, .int x, .int y] [] M P := by
  obtain ⟨t, l, p, a, sl, v, sd⟩ := s
  obtain ⟨h0, h1, h2, h3, h11, h4, h5, h6, h7⟩ : kRt M sd ∧ kTx M t ∧ kLt M l ∧ kP M 8 p ∧ (∃ p, kP M 11 p) ∧ kAc M a ∧ kOv M v ∧ kSl M sl ∧ ∃ o, kTm M o := id h
  obtain ⟨o1, o2, o3, o4, o5, o6, o7⟩ : txOk t ∧ ltOk l ∧ pgOk p ∧ (∀ q ∈ a, pgOk q) ∧ a.length ≤ 14 ∧ (∀ i q, sl i = some q → pgOk q) ∧ ovOk v := ho
  obtain ⟨f3, g3, x3, hf3, hg3⟩ := id h3
  have x3a := x3.1
  unfold kRt at h0
  unfold a_cell at hp
  cases hx : inR x 12 with
  | true =>
    rw [if_pos hx] at hp
    obtain ⟨i, hi, rfl⟩ := inR_of hx (by decide)
    have hcl : (nI i).toNatClampNeg = i := n_cl (by omega)
    rw [hcl] at hp
    cases hy : inR y 2 with
    | true =>
      rw [if_pos hy] at hp
      obtain ⟨j, hj, rfl⟩ := inR_of hy (by decide)
      rw [n_cl (by omega)] at hp
      rcases (show j = 0 ∨ j = 1 by omega) with rfl | rfl
      · skip
        refine ev_iload_n (i := 1) dX7_cell_0 rfl rfl ?_
        refine ev_S1 (μ1 := mX7_isCell) dX7_cell_1 sX7_127 okX7_isCell (Nat.le_of_ble_eq_true rfl) (Nat.le_of_ble_eq_true rfl) ?_
        refine c_X7_isCell ?_
        refine ev_if_neB 10 dX7_cell_4 (by decide) (fun b4 => ?_) (fun b4 => by rw [hx] at b4; cases b4)
        refine ev_iload_n (i := 2) dX7_cell_10 rfl rfl ?_
        refine ev_lsw (off := 25) 36 dX7_cell_11 (by decide) (by decide) (by decide) ?_
        refine ev_aload_n (i := 0) dX7_cell_36 rfl rfl ?_
        refine ev_getfield dX7_cell_37 fX7_26 (by first | omega | decide) (by first | assumption | (simp (disch := omega) only [mu_s, mu_n]; first | assumption | rfl)) (by rfl) ?_
        refine ev_iload_n (i := 1) dX7_cell_40 rfl rfl ?_
        refine ev_V1 (μ1 := mX3_inkAt) dX7_cell_41 sX7_130 okX3_inkAt (by first | omega | decide) (by first | assumption | (simp (disch := omega) only [mu_s, mu_n]; first | assumption | rfl)) (Nat.le_of_ble_eq_true rfl) (Nat.le_of_ble_eq_true rfl) ?_
        refine c_X3_inkAt (by omega) x3 ?_
        rw [if_pos hx, hcl, hf3 i hi]
        refine ev_reti dX7_cell_44 rfl rfl ?_
        exact hp
      · skip
        refine ev_iload_n (i := 1) dX7_cell_0 rfl rfl ?_
        refine ev_S1 (μ1 := mX7_isCell) dX7_cell_1 sX7_127 okX7_isCell (Nat.le_of_ble_eq_true rfl) (Nat.le_of_ble_eq_true rfl) ?_
        refine c_X7_isCell ?_
        refine ev_if_neB 10 dX7_cell_4 (by decide) (fun b4 => ?_) (fun b4 => by rw [hx] at b4; cases b4)
        refine ev_iload_n (i := 2) dX7_cell_10 rfl rfl ?_
        refine ev_lsw (off := 34) 45 dX7_cell_11 (by decide) (by decide) (by decide) ?_
        refine ev_aload_n (i := 0) dX7_cell_45 rfl rfl ?_
        refine ev_getfield dX7_cell_46 fX7_26 (by first | omega | decide) (by first | assumption | (simp (disch := omega) only [mu_s, mu_n]; first | assumption | rfl)) (by rfl) ?_
        refine ev_iload_n (i := 1) dX7_cell_49 rfl rfl ?_
        refine ev_V1 (μ1 := mX3_topAt) dX7_cell_50 sX7_133 okX3_topAt (by first | omega | decide) (by first | assumption | (simp (disch := omega) only [mu_s, mu_n]; first | assumption | rfl)) (Nat.le_of_ble_eq_true rfl) (Nat.le_of_ble_eq_true rfl) ?_
        refine c_X3_topAt (by omega) x3 ?_
        rw [if_pos hx, hcl, hg3 i hi]
        refine ev_reti dX7_cell_53 rfl rfl ?_
        exact hp
    | false =>
      rw [hy, if_neg (by decide)] at hp
      have e0 : ¬ y = 0 := fun z => by rw [z] at hy; revert hy; decide
      have e1 : ¬ y = 1 := fun z => by rw [z] at hy; revert hy; decide
      refine ev_iload_n (i := 1) dX7_cell_0 rfl rfl ?_
      refine ev_S1 (μ1 := mX7_isCell) dX7_cell_1 sX7_127 okX7_isCell (Nat.le_of_ble_eq_true rfl) (Nat.le_of_ble_eq_true rfl) ?_
      refine c_X7_isCell ?_
      refine ev_if_neB 10 dX7_cell_4 (by decide) (fun b4 => ?_) (fun b4 => by rw [hx] at b4; cases b4)
      refine ev_iload_n (i := 2) dX7_cell_10 rfl rfl ?_
      refine ev_lsw (off := 43) 54 dX7_cell_11 (by decide) ((lv_osw (k := 0) (a := 0) (o := 25) (r := [(1, 34)]) e0 (by decide)).trans ((lv_osw (k := 1) (a := 1) (o := 34) (r := []) e1 (by decide)).trans rfl)) (by decide) ?_
      refine ev_bipush (v := (-2)) dX7_cell_54 rfl ?_
      refine ev_reti dX7_cell_56 rfl rfl ?_
      exact hp
  | false =>
    rw [hx, if_neg (by decide)] at hp
    refine ev_iload_n (i := 1) dX7_cell_0 rfl rfl ?_
    refine ev_S1 (μ1 := mX7_isCell) dX7_cell_1 sX7_127 okX7_isCell (Nat.le_of_ble_eq_true rfl) (Nat.le_of_ble_eq_true rfl) ?_
    refine c_X7_isCell ?_
    refine ev_if_neB 10 dX7_cell_4 (by decide) (fun b4 => by rw [hx] at b4; cases b4) (fun b4 => ?_)
    refine ev_bipush (v := (-2)) dX7_cell_7 rfl ?_
    refine ev_reti dX7_cell_9 rfl rfl ?_
    exact hp
theorem C_press {x : Int32} (h : kC M s) (ho : cOk s) (hp : ∀ M1, ag M M1 0 72 → kC M1 (n_press s x) → P (some (.int (a_press s x))) M1) : Ev 88 7 mX7_press none 0 [.ref 0, .int x] [] M P := by
  obtain ⟨t, l, p, a, sl, v, sd⟩ := s
  obtain ⟨h0, h1, h2, h3, h11, h4, h5, h6, h7⟩ : kRt M sd ∧ kTx M t ∧ kLt M l ∧ kP M 8 p ∧ (∃ p, kP M 11 p) ∧ kAc M a ∧ kOv M v ∧ kSl M sl ∧ ∃ o, kTm M o := id h
  obtain ⟨o1, o2, o3, o4, o5, o6, o7⟩ : txOk t ∧ ltOk l ∧ pgOk p ∧ (∀ q ∈ a, pgOk q) ∧ a.length ≤ 14 ∧ (∀ i q, sl i = some q → pgOk q) ∧ ovOk v := ho
  have x2 := h2.1
  obtain ⟨fi, g, x4, -⟩ := id h4
  obtain ⟨f3, g3, x3, -⟩ := id h3
  have x3a := x3.1
  have hl6 : l.1 ≤ 6 := o2.1
  unfold kRt at h0
  cases hx : inR x l.1 with
  | true =>
    obtain ⟨i, hi, rfl⟩ := inR_of hx (by omega)
    have hcl : (nI i).toNatClampNeg = i := n_cl (by omega)
    have e1 : a_press (t, l, p, a, sl, v, sd) (nI i) = nI (cnt (shN (prs (t, l, p, a, sl, v, sd) i).1 0)) := by unfold a_press; rw [if_pos hx, hcl]
    have e2 : n_press (t, l, p, a, sl, v, sd) (nI i) = (t, l, prs (t, l, p, a, sl, v, sd) i, actsAdd a p, sl, v, sd) := by unfold n_press; rw [if_pos hx, hcl]
    rw [e1, e2] at hp
    have hfo := (o2.2 i hi).2.2.1
    have hce := (ltOk_cells o2 hi).1
    refine ev_aload_n (i := 0) dX7_press_0 rfl rfl ?_
    refine ev_getfield dX7_press_1 fX7_19 (by first | omega | decide) (by first | assumption | (simp (disch := omega) only [mu_s, mu_n]; first | assumption | rfl)) (by rfl) ?_
    refine ev_iload_n (i := 1) dX7_press_4 rfl rfl ?_
    refine ev_V1 (μ1 := mX1_has) dX7_press_5 sX7_108 okX1_has (by first | omega | decide) (by first | assumption | (simp (disch := omega) only [mu_s, mu_n]; first | assumption | rfl)) (Nat.le_of_ble_eq_true rfl) (Nat.le_of_ble_eq_true rfl) ?_
    refine c_X1_has h2 o2 ?_
    refine ev_if_neB 13 dX7_press_8 (by decide) (fun b8 => ?_) (fun b8 => by rw [hx] at b8; cases b8)
    refine ev_aload_n (i := 0) dX7_press_13 rfl rfl ?_
    refine ev_getfield dX7_press_14 fX7_36 (by first | omega | decide) (by first | assumption | (simp (disch := omega) only [mu_s, mu_n]; first | assumption | rfl)) (by rfl) ?_
    refine ev_aload_n (i := 0) dX7_press_17 rfl rfl ?_
    refine ev_getfield dX7_press_18 fX7_26 (by first | omega | decide) (by first | assumption | (simp (disch := omega) only [mu_s, mu_n]; first | assumption | rfl)) (by rfl) ?_
    refine ev_V1 (μ1 := mX0_remember) dX7_press_21 sX7_136 okX0_remember (by first | omega | decide) (by first | assumption | (simp (disch := omega) only [mu_s, mu_n]; first | assumption | rfl)) (Nat.le_of_ble_eq_true rfl) (Nat.le_of_ble_eq_true rfl) ?_
    refine q_remember h4 h3 (fun M1 ha hk => ?_)
    have y0 := (ha 0 (by omega)).trans h0
    have y2 := (ha 3 (by omega)).trans x2
    have y3 := (ha 8 (by omega)).trans x3a
    have z2 := kLt_ag h2 ha (by omega)
    refine ev_aload_n (i := 0) dX7_press_24 rfl rfl ?_
    refine ev_getfield dX7_press_25 fX7_26 (by first | omega | decide) (by first | assumption | (simp (disch := omega) only [mu_s, mu_n]; first | assumption | rfl)) (by rfl) ?_
    refine ev_aload_n (i := 0) dX7_press_28 rfl rfl ?_
    refine ev_getfield dX7_press_29 fX7_19 (by first | omega | decide) (by first | assumption | (simp (disch := omega) only [mu_s, mu_n]; first | assumption | rfl)) (by rfl) ?_
    refine ev_iload_n (i := 1) dX7_press_32 rfl rfl ?_
    refine ev_V1 (μ1 := mX1_cellsOf) dX7_press_33 sX7_120 okX1_cellsOf (by first | omega | decide) (by first | assumption | (simp (disch := omega) only [mu_s, mu_n]; first | assumption | rfl)) (Nat.le_of_ble_eq_true rfl) (Nat.le_of_ble_eq_true rfl) ?_
    refine c_X1_cellsOf z2 o2 hi ?_
    refine ev_aload_n (i := 0) dX7_press_36 rfl rfl ?_
    refine ev_getfield dX7_press_37 fX7_19 (by first | omega | decide) (by first | assumption | (simp (disch := omega) only [mu_s, mu_n]; first | assumption | rfl)) (by rfl) ?_
    refine ev_iload_n (i := 1) dX7_press_40 rfl rfl ?_
    refine ev_V1 (μ1 := mX1_forceOf) dX7_press_41 sX7_117 okX1_forceOf (by first | omega | decide) (by first | assumption | (simp (disch := omega) only [mu_s, mu_n]; first | assumption | rfl)) (Nat.le_of_ble_eq_true rfl) (Nat.le_of_ble_eq_true rfl) ?_
    refine c_X1_forceOf z2 o2 hi ?_
    refine ev_iload_n (i := 1) dX7_press_44 rfl rfl ?_
    refine ev_V3 (μ1 := mX3_addInk) dX7_press_45 sX7_140 okX3_addInk (by first | omega | decide) (by first | assumption | (simp (disch := omega) only [mu_s, mu_n]; first | assumption | rfl)) (Nat.le_of_ble_eq_true rfl) (Nat.le_of_ble_eq_true rfl) ?_
    refine q_addInk (by omega) (kP_ag h3 ha (by omega)) o3 (by omega) hfo (fun M2 ha2 hk2 => ?_)
    have w0 := (ha2 0 (by omega)).trans y0
    obtain ⟨f4, g4, w3, -⟩ := id hk2
    have w3a := w3.1
    refine ev_aload_n (i := 0) dX7_press_48 rfl rfl ?_
    refine ev_getfield dX7_press_49 fX7_26 (by first | omega | decide) (by first | assumption | (simp (disch := omega) only [mu_s, mu_n]; first | assumption | rfl)) (by rfl) ?_
    refine ev_iconst (v := nI 0) dX7_press_52 rfl ?_
    refine ev_V1 (μ1 := mX3_shownIn) dX7_press_53 sX7_93 okX3_shownIn (by first | omega | decide) (by first | assumption | (simp (disch := omega) only [mu_s, mu_n]; first | assumption | rfl)) (Nat.le_of_ble_eq_true rfl) (Nat.le_of_ble_eq_true rfl) ?_
    refine q_shownIn (by omega) hk2 (pgPress_ok o3 (by omega)) (by decide) ?_
    refine ev_S1 (μ1 := mJ6_bitCount_0f7a4) dX7_press_56 sX7_144 okJ6_bitCount_0f7a4 (Nat.le_of_ble_eq_true rfl) (Nat.le_of_ble_eq_true rfl) ?_
    refine c_bitCount (shN_lt _ _) ?_
    refine ev_reti dX7_press_59 rfl rfl ?_
    exact hp M2 (ag_tr ha ha2) (kC_pg (kC_ac h ha hk) ha2 hk2)
  | false =>
    have e1 : a_press (t, l, p, a, sl, v, sd) x = (-1) := by unfold a_press; rw [hx]; rfl
    have e2 : n_press (t, l, p, a, sl, v, sd) x = (t, l, p, a, sl, v, sd) := by unfold n_press; rw [hx]; rfl
    rw [e1, e2] at hp
    refine ev_aload_n (i := 0) dX7_press_0 rfl rfl ?_
    refine ev_getfield dX7_press_1 fX7_19 (by first | omega | decide) (by first | assumption | (simp (disch := omega) only [mu_s, mu_n]; first | assumption | rfl)) (by rfl) ?_
    refine ev_iload_n (i := 1) dX7_press_4 rfl rfl ?_
    refine ev_V1 (μ1 := mX1_has) dX7_press_5 sX7_108 okX1_has (by first | omega | decide) (by first | assumption | (simp (disch := omega) only [mu_s, mu_n]; first | assumption | rfl)) (Nat.le_of_ble_eq_true rfl) (Nat.le_of_ble_eq_true rfl) ?_
    refine c_X1_has h2 o2 ?_
    refine ev_if_neB 13 dX7_press_8 (by decide) (fun b8 => by rw [hx] at b8; cases b8) (fun b8 => ?_)
    refine ev_iconst (v := (-1)) dX7_press_11 rfl ?_
    refine ev_reti dX7_press_12 rfl rfl ?_
    exact hp M (ag_rf M _ _) h
theorem C_day (h : kC M s) (ho : cOk s) (hp : ∀ M1, ag M M1 0 72 → kC M1 (n_day s) → P (some (.int (a_day s))) M1) : Ev 88 7 mX7_day none 0 [.ref 0] [] M P := by
  obtain ⟨t, l, p, a, sl, v, sd⟩ := s
  obtain ⟨h0, h1, h2, h3, h11, h4, h5, h6, h7⟩ : kRt M sd ∧ kTx M t ∧ kLt M l ∧ kP M 8 p ∧ (∃ p, kP M 11 p) ∧ kAc M a ∧ kOv M v ∧ kSl M sl ∧ ∃ o, kTm M o := id h
  obtain ⟨o1, o2, o3, o4, o5, o6, o7⟩ : txOk t ∧ ltOk l ∧ pgOk p ∧ (∀ q ∈ a, pgOk q) ∧ a.length ≤ 14 ∧ (∀ i q, sl i = some q → pgOk q) ∧ ovOk v := ho
  obtain ⟨fi, g, x4, -⟩ := id h4
  obtain ⟨f3, g3, x3, -⟩ := id h3
  have x3a := x3.1
  unfold kRt at h0
  refine ev_aload_n (i := 0) dX7_day_0 rfl rfl ?_
  refine ev_getfield dX7_day_1 fX7_36 (by first | omega | decide) (by first | assumption | (simp (disch := omega) only [mu_s, mu_n]; first | assumption | rfl)) (by rfl) ?_
  refine ev_aload_n (i := 0) dX7_day_4 rfl rfl ?_
  refine ev_getfield dX7_day_5 fX7_26 (by first | omega | decide) (by first | assumption | (simp (disch := omega) only [mu_s, mu_n]; first | assumption | rfl)) (by rfl) ?_
  refine ev_V1 (μ1 := mX0_remember) dX7_day_8 sX7_136 okX0_remember (by first | omega | decide) (by first | assumption | (simp (disch := omega) only [mu_s, mu_n]; first | assumption | rfl)) (Nat.le_of_ble_eq_true rfl) (Nat.le_of_ble_eq_true rfl) ?_
  refine q_remember h4 h3 (fun M1 ha hk => ?_)
  have y0 := (ha 0 (by omega)).trans h0
  have y3 := (ha 8 (by omega)).trans x3a
  refine ev_aload_n (i := 0) dX7_day_11 rfl rfl ?_
  refine ev_getfield dX7_day_12 fX7_26 (by first | omega | decide) (by first | assumption | (simp (disch := omega) only [mu_s, mu_n]; first | assumption | rfl)) (by rfl) ?_
  refine ev_V0 (μ1 := mX3_dry) dX7_day_15 sX7_149 okX3_dry (by first | omega | decide) (by first | assumption | (simp (disch := omega) only [mu_s, mu_n]; first | assumption | rfl)) (Nat.le_of_ble_eq_true rfl) (Nat.le_of_ble_eq_true rfl) ?_
  refine q_dry (by omega) (kP_ag h3 ha (by omega)) o3 (fun M2 ha2 hk2 => ?_)
  have w0 := (ha2 0 (by omega)).trans y0
  obtain ⟨f4, g4, w3, -⟩ := id hk2
  have w3a := w3.1
  refine ev_aload_n (i := 0) dX7_day_18 rfl rfl ?_
  refine ev_getfield dX7_day_19 fX7_26 (by first | omega | decide) (by first | assumption | (simp (disch := omega) only [mu_s, mu_n]; first | assumption | rfl)) (by rfl) ?_
  refine ev_getfield dX7_day_22 fX7_83 (by first | omega | decide) (by first | assumption | (simp (disch := omega) only [mu_s, mu_n]; first | assumption | rfl)) (by rfl) ?_
  refine ev_reti dX7_day_25 rfl rfl ?_
  exact hp M2 (ag_tr ha ha2) (kC_pg (kC_ac h ha hk) ha2 hk2)
theorem C_rub {x : Int32} (h : kC M s) (ho : cOk s) (hp : ∀ M1, ag M M1 0 72 → kC M1 (n_rub s x) → P (some (.int (a_rub s x))) M1) : Ev 88 7 mX7_rub none 0 [.ref 0, .int x, .null] [] M P := by
  obtain ⟨t, l, p, a, sl, v, sd⟩ := s
  obtain ⟨h0, h1, h2, h3, h11, h4, h5, h6, h7⟩ : kRt M sd ∧ kTx M t ∧ kLt M l ∧ kP M 8 p ∧ (∃ p, kP M 11 p) ∧ kAc M a ∧ kOv M v ∧ kSl M sl ∧ ∃ o, kTm M o := id h
  obtain ⟨o1, o2, o3, o4, o5, o6, o7⟩ : txOk t ∧ ltOk l ∧ pgOk p ∧ (∀ q ∈ a, pgOk q) ∧ a.length ≤ 14 ∧ (∀ i q, sl i = some q → pgOk q) ∧ ovOk v := ho
  obtain ⟨fi, g, x4, -⟩ := id h4
  obtain ⟨f3, g3, x3, hf3, hg3⟩ := id h3
  have x3a := x3.1
  unfold kRt at h0
  cases hx : inR x 12 with
  | true =>
    obtain ⟨i, hi, rfl⟩ := inR_of hx (by decide)
    have hcl : (nI i).toNatClampNeg = i := n_cl (by omega)
    have h9 := (o3 i hi).1
    have h9 : p.1 i ≤ 9 := h9
    by_cases hz : p.1 i = 0
    · have e1 : a_rub (t, l, p, a, sl, v, sd) (nI i) = (-3) := by unfold a_rub; rw [if_pos hx, hcl, if_pos hz]
      have e2 : n_rub (t, l, p, a, sl, v, sd) (nI i) = (t, l, p, a, sl, v, sd) := by unfold n_rub; rw [hcl, if_neg (fun z => z.2 hz)]
      rw [e1, e2] at hp
      refine ev_iload_n (i := 1) dX7_rub_0 rfl rfl ?_
      refine ev_S1 (μ1 := mX7_isCell) dX7_rub_1 sX7_127 okX7_isCell (Nat.le_of_ble_eq_true rfl) (Nat.le_of_ble_eq_true rfl) ?_
      refine c_X7_isCell ?_
      refine ev_if_neB 10 dX7_rub_4 (by decide) (fun b4 => ?_) (fun b4 => by rw [hx] at b4; cases b4)
      refine ev_aload_n (i := 0) dX7_rub_10 rfl rfl ?_
      refine ev_getfield dX7_rub_11 fX7_26 (by first | omega | decide) (by first | assumption | (simp (disch := omega) only [mu_s, mu_n]; first | assumption | rfl)) (by rfl) ?_
      refine ev_iload_n (i := 1) dX7_rub_14 rfl rfl ?_
      refine ev_V1 (μ1 := mX3_inkAt) dX7_rub_15 sX7_130 okX3_inkAt (by first | omega | decide) (by first | assumption | (simp (disch := omega) only [mu_s, mu_n]; first | assumption | rfl)) (Nat.le_of_ble_eq_true rfl) (Nat.le_of_ble_eq_true rfl) ?_
      refine c_X3_inkAt (by omega) x3 ?_
      rw [if_pos hx, hcl, hf3 i hi]
      refine ev_istore_n (i := 2) dX7_rub_18 rfl (by decide) rfl ?_
      refine ev_iload_n (i := 2) dX7_rub_19 rfl rfl ?_
      refine ev_if_neN 26 dX7_rub_20 (by decide) (by omega) (fun b20 => by exfalso; omega) (fun b20 => ?_)
      refine ev_bipush (v := (-3)) dX7_rub_23 rfl ?_
      refine ev_reti dX7_rub_25 rfl rfl ?_
      exact hp M (ag_rf M _ _) h
    · have e1 : a_rub (t, l, p, a, sl, v, sd) (nI i) = nI (p.1 i) := by unfold a_rub; rw [if_pos hx, hcl, if_neg hz]
      have e2 : n_rub (t, l, p, a, sl, v, sd) (nI i) = (t, l, pgClean i p, actsAdd a p, sl, v, sd) := by unfold n_rub; rw [hcl, if_pos ⟨hx, hz⟩]
      rw [e1, e2] at hp
      refine ev_iload_n (i := 1) dX7_rub_0 rfl rfl ?_
      refine ev_S1 (μ1 := mX7_isCell) dX7_rub_1 sX7_127 okX7_isCell (Nat.le_of_ble_eq_true rfl) (Nat.le_of_ble_eq_true rfl) ?_
      refine c_X7_isCell ?_
      refine ev_if_neB 10 dX7_rub_4 (by decide) (fun b4 => ?_) (fun b4 => by rw [hx] at b4; cases b4)
      refine ev_aload_n (i := 0) dX7_rub_10 rfl rfl ?_
      refine ev_getfield dX7_rub_11 fX7_26 (by first | omega | decide) (by first | assumption | (simp (disch := omega) only [mu_s, mu_n]; first | assumption | rfl)) (by rfl) ?_
      refine ev_iload_n (i := 1) dX7_rub_14 rfl rfl ?_
      refine ev_V1 (μ1 := mX3_inkAt) dX7_rub_15 sX7_130 okX3_inkAt (by first | omega | decide) (by first | assumption | (simp (disch := omega) only [mu_s, mu_n]; first | assumption | rfl)) (Nat.le_of_ble_eq_true rfl) (Nat.le_of_ble_eq_true rfl) ?_
      refine c_X3_inkAt (by omega) x3 ?_
      rw [if_pos hx, hcl, hf3 i hi]
      refine ev_istore_n (i := 2) dX7_rub_18 rfl (by decide) rfl ?_
      refine ev_iload_n (i := 2) dX7_rub_19 rfl rfl ?_
      refine ev_if_neN 26 dX7_rub_20 (by decide) (by omega) (fun b20 => ?_) (fun b20 => by exfalso; omega)
      refine ev_aload_n (i := 0) dX7_rub_26 rfl rfl ?_
      refine ev_getfield dX7_rub_27 fX7_36 (by first | omega | decide) (by first | assumption | (simp (disch := omega) only [mu_s, mu_n]; first | assumption | rfl)) (by rfl) ?_
      refine ev_aload_n (i := 0) dX7_rub_30 rfl rfl ?_
      refine ev_getfield dX7_rub_31 fX7_26 (by first | omega | decide) (by first | assumption | (simp (disch := omega) only [mu_s, mu_n]; first | assumption | rfl)) (by rfl) ?_
      refine ev_V1 (μ1 := mX0_remember) dX7_rub_34 sX7_136 okX0_remember (by first | omega | decide) (by first | assumption | (simp (disch := omega) only [mu_s, mu_n]; first | assumption | rfl)) (Nat.le_of_ble_eq_true rfl) (Nat.le_of_ble_eq_true rfl) ?_
      refine q_remember h4 h3 (fun M1 ha hk => ?_)
      have y0 := (ha 0 (by omega)).trans h0
      have y3 := (ha 8 (by omega)).trans x3a
      refine ev_aload_n (i := 0) dX7_rub_37 rfl rfl ?_
      refine ev_getfield dX7_rub_38 fX7_26 (by first | omega | decide) (by first | assumption | (simp (disch := omega) only [mu_s, mu_n]; first | assumption | rfl)) (by rfl) ?_
      refine ev_iload_n (i := 1) dX7_rub_41 rfl rfl ?_
      refine ev_V1 (μ1 := mX3_clean) dX7_rub_42 sX7_152 okX3_clean (by first | omega | decide) (by first | assumption | (simp (disch := omega) only [mu_s, mu_n]; first | assumption | rfl)) (Nat.le_of_ble_eq_true rfl) (Nat.le_of_ble_eq_true rfl) ?_
      refine q_clean (by omega) (kP_ag h3 ha (by omega)) hi (fun M2 ha2 hk2 => ?_)
      refine ev_iload_n (i := 2) dX7_rub_45 rfl rfl ?_
      refine ev_reti dX7_rub_46 rfl rfl ?_
      exact hp M2 (ag_tr ha ha2) (kC_pg (kC_ac h ha hk) ha2 hk2)
  | false =>
    have e1 : a_rub (t, l, p, a, sl, v, sd) x = (-2) := by unfold a_rub; rw [hx]; rfl
    have e2 : n_rub (t, l, p, a, sl, v, sd) x = (t, l, p, a, sl, v, sd) := by unfold n_rub; rw [if_neg (fun z => by rw [hx] at z; cases z.1)]
    rw [e1, e2] at hp
    refine ev_iload_n (i := 1) dX7_rub_0 rfl rfl ?_
    refine ev_S1 (μ1 := mX7_isCell) dX7_rub_1 sX7_127 okX7_isCell (Nat.le_of_ble_eq_true rfl) (Nat.le_of_ble_eq_true rfl) ?_
    refine c_X7_isCell ?_
    refine ev_if_neB 10 dX7_rub_4 (by decide) (fun b4 => by rw [hx] at b4; cases b4) (fun b4 => ?_)
    refine ev_bipush (v := (-2)) dX7_rub_7 rfl ?_
    refine ev_reti dX7_rub_9 rfl rfl ?_
    exact hp M (ag_rf M _ _) h
theorem C_change (h : kC M s) (ho : cOk s) (hp : ∀ M1, ag M M1 0 72 → kC M1 (n_change s) → P (some (.int (a_change s))) M1) : Ev 88 7 mX7_change none 0 [.ref 0, .null] [] M P := by
  obtain ⟨t, l, p, a, sl, v, sd⟩ := s
  obtain ⟨h0, h1, h2, h3, h11, h4, h5, h6, h7⟩ : kRt M sd ∧ kTx M t ∧ kLt M l ∧ kP M 8 p ∧ (∃ p, kP M 11 p) ∧ kAc M a ∧ kOv M v ∧ kSl M sl ∧ ∃ o, kTm M o := id h
  obtain ⟨o1, o2, o3, o4, o5, o6, o7⟩ : txOk t ∧ ltOk l ∧ pgOk p ∧ (∀ q ∈ a, pgOk q) ∧ a.length ≤ 14 ∧ (∀ i q, sl i = some q → pgOk q) ∧ ovOk v := ho
  obtain ⟨fi, g, x4, -⟩ := id h4
  obtain ⟨f3, g3, x3, hf3, hg3⟩ := id h3
  have x3a := x3.1
  have hlt : shN p.1 0 < 4096 := shN_lt _ _
  unfold kRt at h0
  by_cases hz : shN p.1 0 = 0
  · have e1 : a_change (t, l, p, a, sl, v, sd) = (-3) := by unfold a_change; rw [if_pos hz]
    have e2 : n_change (t, l, p, a, sl, v, sd) = (t, l, p, a, sl, v, sd) := by unfold n_change; rw [if_pos hz]
    rw [e1, e2] at hp
    refine ev_aload_n (i := 0) dX7_change_0 rfl rfl ?_
    refine ev_getfield dX7_change_1 fX7_26 (by first | omega | decide) (by first | assumption | (simp (disch := omega) only [mu_s, mu_n]; first | assumption | rfl)) (by rfl) ?_
    refine ev_iconst (v := nI 0) dX7_change_4 rfl ?_
    refine ev_V1 (μ1 := mX3_shownIn) dX7_change_5 sX7_93 okX3_shownIn (by first | omega | decide) (by first | assumption | (simp (disch := omega) only [mu_s, mu_n]; first | assumption | rfl)) (Nat.le_of_ble_eq_true rfl) (Nat.le_of_ble_eq_true rfl) ?_
    refine q_shownIn (by omega) h3 o3 (by decide) ?_
    refine ev_istore_n (i := 1) dX7_change_8 rfl (by decide) rfl ?_
    refine ev_iload_n (i := 1) dX7_change_9 rfl rfl ?_
    refine ev_if_neN 16 dX7_change_10 (by decide) (by omega) (fun b10 => by exfalso; omega) (fun b10 => ?_)
    refine ev_bipush (v := (-3)) dX7_change_13 rfl ?_
    refine ev_reti dX7_change_15 rfl rfl ?_
    exact hp M (ag_rf M _ _) h
  · have e1 : a_change (t, l, p, a, sl, v, sd) = nI (cnt (shN p.1 0)) := by unfold a_change; rw [if_neg hz]
    have e2 : n_change (t, l, p, a, sl, v, sd) = (t, l, pgNew p.2.2, actsAdd a p, sl, v, sd) := by unfold n_change; rw [if_neg hz]
    rw [e1, e2] at hp
    refine ev_aload_n (i := 0) dX7_change_0 rfl rfl ?_
    refine ev_getfield dX7_change_1 fX7_26 (by first | omega | decide) (by first | assumption | (simp (disch := omega) only [mu_s, mu_n]; first | assumption | rfl)) (by rfl) ?_
    refine ev_iconst (v := nI 0) dX7_change_4 rfl ?_
    refine ev_V1 (μ1 := mX3_shownIn) dX7_change_5 sX7_93 okX3_shownIn (by first | omega | decide) (by first | assumption | (simp (disch := omega) only [mu_s, mu_n]; first | assumption | rfl)) (Nat.le_of_ble_eq_true rfl) (Nat.le_of_ble_eq_true rfl) ?_
    refine q_shownIn (by omega) h3 o3 (by decide) ?_
    refine ev_istore_n (i := 1) dX7_change_8 rfl (by decide) rfl ?_
    refine ev_iload_n (i := 1) dX7_change_9 rfl rfl ?_
    refine ev_if_neN 16 dX7_change_10 (by decide) (by omega) (fun b10 => ?_) (fun b10 => by exfalso; omega)
    refine ev_aload_n (i := 0) dX7_change_16 rfl rfl ?_
    refine ev_getfield dX7_change_17 fX7_36 (by first | omega | decide) (by first | assumption | (simp (disch := omega) only [mu_s, mu_n]; first | assumption | rfl)) (by rfl) ?_
    refine ev_aload_n (i := 0) dX7_change_20 rfl rfl ?_
    refine ev_getfield dX7_change_21 fX7_26 (by first | omega | decide) (by first | assumption | (simp (disch := omega) only [mu_s, mu_n]; first | assumption | rfl)) (by rfl) ?_
    refine ev_V1 (μ1 := mX0_remember) dX7_change_24 sX7_136 okX0_remember (by first | omega | decide) (by first | assumption | (simp (disch := omega) only [mu_s, mu_n]; first | assumption | rfl)) (Nat.le_of_ble_eq_true rfl) (Nat.le_of_ble_eq_true rfl) ?_
    refine q_remember h4 h3 (fun M1 ha hk => ?_)
    have y0 := (ha 0 (by omega)).trans h0
    have y3 := (ha 8 (by omega)).trans x3a
    refine ev_aload_n (i := 0) dX7_change_27 rfl rfl ?_
    refine ev_getfield dX7_change_28 fX7_26 (by first | omega | decide) (by first | assumption | (simp (disch := omega) only [mu_s, mu_n]; first | assumption | rfl)) (by rfl) ?_
    refine ev_V0 (μ1 := mX3_renew) dX7_change_31 sX7_80 okX3_renew (by first | omega | decide) (by first | assumption | (simp (disch := omega) only [mu_s, mu_n]; first | assumption | rfl)) (Nat.le_of_ble_eq_true rfl) (Nat.le_of_ble_eq_true rfl) ?_
    refine q_renew (by omega) (kP_ag h3 ha (by omega)) (fun M2 ha2 hk2 => ?_)
    refine ev_iload_n (i := 1) dX7_change_34 rfl rfl ?_
    refine ev_S1 (μ1 := mJ6_bitCount_0f7a4) dX7_change_35 sX7_144 okJ6_bitCount_0f7a4 (Nat.le_of_ble_eq_true rfl) (Nat.le_of_ble_eq_true rfl) ?_
    refine c_bitCount hlt ?_
    refine ev_reti dX7_change_38 rfl rfl ?_
    exact hp M2 (ag_tr ha ha2) (kC_pg (kC_ac h ha hk) ha2 hk2)
theorem C_undo (h : kC M s) (ho : cOk s) (hp : ∀ M1, ag M M1 0 72 → kC M1 (n_undo s) → P (some (.int (a_undo s))) M1) : Ev 88 7 mX7_undo none 0 [.ref 0] [] M P := by
  obtain ⟨t, l, p, a, sl, v, sd⟩ := s
  obtain ⟨h0, h1, h2, h3, h11, h4, h5, h6, h7⟩ : kRt M sd ∧ kTx M t ∧ kLt M l ∧ kP M 8 p ∧ (∃ p, kP M 11 p) ∧ kAc M a ∧ kOv M v ∧ kSl M sl ∧ ∃ o, kTm M o := id h
  obtain ⟨o1, o2, o3, o4, o5, o6, o7⟩ : txOk t ∧ ltOk l ∧ pgOk p ∧ (∀ q ∈ a, pgOk q) ∧ a.length ≤ 14 ∧ (∀ i q, sl i = some q → pgOk q) ∧ ovOk v := ho
  obtain ⟨fi, g, x4, -⟩ := id h4
  obtain ⟨f3, g3, x3, hf3, hg3⟩ := id h3
  have x3a := x3.1
  unfold kRt at h0
  rcases List.eq_nil_or_concat a with rfl | ⟨a1, q, rfl⟩
  · skip
    refine ev_aload_n (i := 0) dX7_undo_0 rfl rfl ?_
    refine ev_getfield dX7_undo_1 fX7_36 (by first | omega | decide) (by first | assumption | (simp (disch := omega) only [mu_s, mu_n]; first | assumption | rfl)) (by rfl) ?_
    refine ev_aload_n (i := 0) dX7_undo_4 rfl rfl ?_
    refine ev_getfield dX7_undo_5 fX7_26 (by first | omega | decide) (by first | assumption | (simp (disch := omega) only [mu_s, mu_n]; first | assumption | rfl)) (by rfl) ?_
    refine ev_V1 (μ1 := mX0_takeBack) dX7_undo_8 sX7_156 okX0_takeBack (by first | omega | decide) (by first | assumption | (simp (disch := omega) only [mu_s, mu_n]; first | assumption | rfl)) (Nat.le_of_ble_eq_true rfl) (Nat.le_of_ble_eq_true rfl) ?_
    refine q_takeBack0 h4 ?_
    refine ev_if_eqB 24 dX7_undo_11 (by decide) (fun b11 => ?_) (fun b11 => by cases b11)
    refine ev_bipush (v := (-3)) dX7_undo_24 rfl ?_
    refine ev_reti dX7_undo_26 rfl rfl ?_
    exact hp M (ag_rf M _ _) h
  · have e1 : a_undo (t, l, p, a1 ++ [q], sl, v, sd) = nI a1.length := by
      unfold a_undo
      rw [if_neg (by simp)]
      simp
    have e2 : n_undo (t, l, p, a1 ++ [q], sl, v, sd) = (t, l, q, a1, sl, v, sd) := by
      unfold n_undo
      simp
    rw [List.concat_eq_append] at *
    rw [e1, e2] at hp
    refine ev_aload_n (i := 0) dX7_undo_0 rfl rfl ?_
    refine ev_getfield dX7_undo_1 fX7_36 (by first | omega | decide) (by first | assumption | (simp (disch := omega) only [mu_s, mu_n]; first | assumption | rfl)) (by rfl) ?_
    refine ev_aload_n (i := 0) dX7_undo_4 rfl rfl ?_
    refine ev_getfield dX7_undo_5 fX7_26 (by first | omega | decide) (by first | assumption | (simp (disch := omega) only [mu_s, mu_n]; first | assumption | rfl)) (by rfl) ?_
    refine ev_V1 (μ1 := mX0_takeBack) dX7_undo_8 sX7_156 okX0_takeBack (by first | omega | decide) (by first | assumption | (simp (disch := omega) only [mu_s, mu_n]; first | assumption | rfl)) (Nat.le_of_ble_eq_true rfl) (Nat.le_of_ble_eq_true rfl) ?_
    refine q_takeBack1 h4 x3 (fun M1 M2 ha1 ha2 hk1 hk2 => ?_)
    have y0 := (ha2 0 (by omega)).trans ((ha1 0 (by omega)).trans h0)
    obtain ⟨fi2, g2, y4, -⟩ := id hk2
    refine ev_if_eqB 24 dX7_undo_11 (by decide) (fun b11 => by cases b11) (fun b11 => ?_)
    refine ev_aload_n (i := 0) dX7_undo_14 rfl rfl ?_
    refine ev_getfield dX7_undo_15 fX7_36 (by first | omega | decide) (by first | assumption | (simp (disch := omega) only [mu_s, mu_n]; first | assumption | rfl)) (by rfl) ?_
    refine ev_getfield dX7_undo_18 fX7_106 (by first | omega | decide) (by first | assumption | (simp (disch := omega) only [mu_s, mu_n]; first | assumption | rfl)) (by rfl) ?_
    refine ev_goto 26 dX7_undo_21 (by decide) ?_
    refine ev_reti dX7_undo_26 rfl rfl ?_
    exact hp M2 (ag_tr ha1 ha2) (kC_ua h ha1 ha2 hk1 hk2)
theorem C_later {x : Int32} (h : kC M s) (ho : cOk s) (hp : P (some (.int (a_later s x))) M) : Ev 88 7 mX7_later none 0 [.ref 0, .int x] [] M P := by
  obtain ⟨t, l, p, a, sl, v, sd⟩ := s
  obtain ⟨h0, h1, h2, h3, h11, h4, h5, h6, h7⟩ : kRt M sd ∧ kTx M t ∧ kLt M l ∧ kP M 8 p ∧ (∃ p, kP M 11 p) ∧ kAc M a ∧ kOv M v ∧ kSl M sl ∧ ∃ o, kTm M o := id h
  obtain ⟨o1, o2, o3, o4, o5, o6, o7⟩ : txOk t ∧ ltOk l ∧ pgOk p ∧ (∀ q ∈ a, pgOk q) ∧ a.length ≤ 14 ∧ (∀ i q, sl i = some q → pgOk q) ∧ ovOk v := ho
  obtain ⟨f3, g3, x3, -⟩ := id h3
  have x3a := x3.1
  unfold kRt at h0
  unfold a_later at hp
  cases hx : inR x 10 with
  | true =>
    rw [if_pos hx] at hp
    obtain ⟨j, hj, rfl⟩ := inR_of hx (by decide)
    rw [n_cl (by omega)] at hp
    refine ev_iload_n (i := 1) dX7_later_0 rfl rfl ?_
    refine ev_if_ltN 10 dX7_later_1 (by decide) (by omega) (fun b1 => by exfalso; omega) (fun b1 => ?_)
    refine ev_iload_n (i := 1) dX7_later_4 rfl rfl ?_
    refine ev_bipush (v := nI 9) dX7_later_5 rfl ?_
    refine ev_icmp_leN 15 dX7_later_7 (by decide) (by omega) (by omega) (fun b7 => ?_) (fun b7 => by exfalso; omega)
    refine ev_aload_n (i := 0) dX7_later_15 rfl rfl ?_
    refine ev_getfield dX7_later_16 fX7_26 (by first | omega | decide) (by first | assumption | (simp (disch := omega) only [mu_s, mu_n]; first | assumption | rfl)) (by rfl) ?_
    refine ev_iload_n (i := 1) dX7_later_19 rfl rfl ?_
    refine ev_V1 (μ1 := mX3_shownIn) dX7_later_20 sX7_93 okX3_shownIn (by first | omega | decide) (by first | assumption | (simp (disch := omega) only [mu_s, mu_n]; first | assumption | rfl)) (Nat.le_of_ble_eq_true rfl) (Nat.le_of_ble_eq_true rfl) ?_
    refine q_shownIn (by omega) h3 o3 (by omega) ?_
    refine ev_reti dX7_later_23 rfl rfl ?_
    exact hp
  | false =>
    rw [hx, if_neg (by decide)] at hp
    rcases inR_no hx (by decide) with hx1 | ⟨hx1, hx2⟩
    · skip
      refine ev_iload_n (i := 1) dX7_later_0 rfl rfl ?_
      refine ev_if_lt 10 dX7_later_1 (by decide) (fun b1 => ?_) (fun b1 => absurd hx1 b1)
      refine ev_bipush (v := (-2)) dX7_later_10 rfl ?_
      refine ev_goto 23 dX7_later_12 (by decide) ?_
      refine ev_reti dX7_later_23 rfl rfl ?_
      exact hp
    · have hx3 : ¬ x ≤ nI 9 := Int32.not_le.mpr (nI_lt_of_le hx2 (by decide))
      refine ev_iload_n (i := 1) dX7_later_0 rfl rfl ?_
      refine ev_if_lt 10 dX7_later_1 (by decide) (fun b1 => absurd b1 hx1) (fun b1 => ?_)
      refine ev_iload_n (i := 1) dX7_later_4 rfl rfl ?_
      refine ev_bipush (v := nI 9) dX7_later_5 rfl ?_
      refine ev_icmp_le 15 dX7_later_7 (by decide) (fun b7 => absurd b7 hx3) (fun b7 => ?_)
      refine ev_bipush (v := (-2)) dX7_later_10 rfl ?_
      refine ev_goto 23 dX7_later_12 (by decide) ?_
      refine ev_reti dX7_later_23 rfl rfl ?_
      exact hp
theorem C_lasts {x : Int32} (h : kC M s) (ho : cOk s) (hp : P (some (.int (a_lasts s x))) M) : Ev 88 7 mX7_lasts none 0 [.ref 0, .int x, .null] [] M P := by
  obtain ⟨t, l, p, a, sl, v, sd⟩ := s
  obtain ⟨h0, h1, h2, h3, h11, h4, h5, h6, h7⟩ : kRt M sd ∧ kTx M t ∧ kLt M l ∧ kP M 8 p ∧ (∃ p, kP M 11 p) ∧ kAc M a ∧ kOv M v ∧ kSl M sl ∧ ∃ o, kTm M o := id h
  obtain ⟨o1, o2, o3, o4, o5, o6, o7⟩ : txOk t ∧ ltOk l ∧ pgOk p ∧ (∀ q ∈ a, pgOk q) ∧ a.length ≤ 14 ∧ (∀ i q, sl i = some q → pgOk q) ∧ ovOk v := ho
  have x2 := h2.1
  obtain ⟨f3, g3, x3, -⟩ := id h3
  have x3a := x3.1
  have hl6 : l.1 ≤ 6 := o2.1
  unfold kRt at h0
  unfold a_lasts at hp
  cases hx : inR x l.1 with
  | true =>
    rw [if_pos hx] at hp
    obtain ⟨i, hi, rfl⟩ := inR_of hx (by omega)
    rw [n_cl (by omega)] at hp
    have lp : ∀ (j n : Nat), n + j = 9 → lf (fun n => !rdN l (shN p.1 n) i) 9 0 = lf (fun n => !rdN l (shN p.1 n) i) j n → Ev 88 7 mX7_lasts none 15 [.ref 0, .int (nI i), .int (nI n)] [] M P := by
      intro j
      induction j with
      | zero =>
        intro n hn e
        obtain rfl : n = 9 := by omega
        have hp : P (some (.int (nI ((lf (fun n => !rdN l (shN p.1 n) i) 9 0).getD 9)))) M := hp
        rw [e] at hp
        refine ev_iload_n (i := 2) dX7_lasts_15 rfl rfl ?_
        refine ev_bipush (v := nI 9) dX7_lasts_16 rfl ?_
        refine ev_icmp_geN 46 dX7_lasts_18 (by decide) (by omega) (by omega) (fun b18 => ?_) (fun b18 => by exfalso; omega)
        refine ev_iload_n (i := 2) dX7_lasts_46 rfl rfl ?_
        refine ev_reti dX7_lasts_47 rfl rfl ?_
        exact hp
      | succ j ih =>
        intro n hn e
        have hp : P (some (.int (nI ((lf (fun n => !rdN l (shN p.1 n) i) 9 0).getD 9)))) M := hp
        refine ev_iload_n (i := 2) dX7_lasts_15 rfl rfl ?_
        refine ev_bipush (v := nI 9) dX7_lasts_16 rfl ?_
        refine ev_icmp_geN 46 dX7_lasts_18 (by decide) (by omega) (by omega) (fun b18 => by exfalso; omega) (fun b18 => ?_)
        refine ev_aload_n (i := 0) dX7_lasts_21 rfl rfl ?_
        refine ev_getfield dX7_lasts_22 fX7_19 (by first | omega | decide) (by first | assumption | (simp (disch := omega) only [mu_s, mu_n]; first | assumption | rfl)) (by rfl) ?_
        refine ev_iload_n (i := 1) dX7_lasts_25 rfl rfl ?_
        refine ev_aload_n (i := 0) dX7_lasts_26 rfl rfl ?_
        refine ev_getfield dX7_lasts_27 fX7_26 (by first | omega | decide) (by first | assumption | (simp (disch := omega) only [mu_s, mu_n]; first | assumption | rfl)) (by rfl) ?_
        refine ev_iload_n (i := 2) dX7_lasts_30 rfl rfl ?_
        refine ev_V1 (μ1 := mX3_shownIn) dX7_lasts_31 sX7_93 okX3_shownIn (by first | omega | decide) (by first | assumption | (simp (disch := omega) only [mu_s, mu_n]; first | assumption | rfl)) (Nat.le_of_ble_eq_true rfl) (Nat.le_of_ble_eq_true rfl) ?_
        refine q_shownIn (by omega) h3 o3 (by omega) ?_
        refine ev_V2 (μ1 := mX1_canBeRead) dX7_lasts_34 sX7_123 okX1_canBeRead (by first | omega | decide) (by first | assumption | (simp (disch := omega) only [mu_s, mu_n]; first | assumption | rfl)) (Nat.le_of_ble_eq_true rfl) (Nat.le_of_ble_eq_true rfl) ?_
        refine c_X1_canBeRead h2 o2 hi ?_
        refine ev_if_eqB 46 dX7_lasts_37 (by decide) (fun b37 => ?_) (fun b37 => ?_)
        · skip
          refine ev_iload_n (i := 2) dX7_lasts_46 rfl rfl ?_
          refine ev_reti dX7_lasts_47 rfl rfl ?_
          rw [e, lf_t (by rw [b37]; rfl)] at hp
          exact hp
        · skip
          refine ev_incN dX7_lasts_40 (by rfl) (by decide) rfl ?_
          refine ev_goto 15 dX7_lasts_43 (by decide) ?_
          exact ih _ (by omega) (e.trans (lf_f (by rw [b37]; rfl)))
    refine ev_aload_n (i := 0) dX7_lasts_0 rfl rfl ?_
    refine ev_getfield dX7_lasts_1 fX7_19 (by first | omega | decide) (by first | assumption | (simp (disch := omega) only [mu_s, mu_n]; first | assumption | rfl)) (by rfl) ?_
    refine ev_iload_n (i := 1) dX7_lasts_4 rfl rfl ?_
    refine ev_V1 (μ1 := mX1_has) dX7_lasts_5 sX7_108 okX1_has (by first | omega | decide) (by first | assumption | (simp (disch := omega) only [mu_s, mu_n]; first | assumption | rfl)) (Nat.le_of_ble_eq_true rfl) (Nat.le_of_ble_eq_true rfl) ?_
    refine c_X1_has h2 o2 ?_
    refine ev_if_neB 13 dX7_lasts_8 (by decide) (fun b8 => ?_) (fun b8 => by rw [hx] at b8; cases b8)
    refine ev_iconst (v := nI 0) dX7_lasts_13 rfl ?_
    refine ev_istore_n (i := 2) dX7_lasts_14 rfl (by decide) rfl ?_
    exact lp 9 0 rfl rfl
  | false =>
    rw [hx, if_neg (by decide)] at hp
    refine ev_aload_n (i := 0) dX7_lasts_0 rfl rfl ?_
    refine ev_getfield dX7_lasts_1 fX7_19 (by first | omega | decide) (by first | assumption | (simp (disch := omega) only [mu_s, mu_n]; first | assumption | rfl)) (by rfl) ?_
    refine ev_iload_n (i := 1) dX7_lasts_4 rfl rfl ?_
    refine ev_V1 (μ1 := mX1_has) dX7_lasts_5 sX7_108 okX1_has (by first | omega | decide) (by first | assumption | (simp (disch := omega) only [mu_s, mu_n]; first | assumption | rfl)) (Nat.le_of_ble_eq_true rfl) (Nat.le_of_ble_eq_true rfl) ?_
    refine c_X1_has h2 o2 ?_
    refine ev_if_neB 13 dX7_lasts_8 (by decide) (fun b8 => by rw [hx] at b8; cases b8) (fun b8 => ?_)
    refine ev_iconst (v := (-1)) dX7_lasts_11 rfl ?_
    refine ev_reti dX7_lasts_12 rfl rfl ?_
    exact hp
theorem C_shows {x : Int32} (h : kC M s) (ho : cOk s) (hp : P (some (.int (a_shows s x))) M) : Ev 88 7 mX7_shows none 0 [.ref 0, .int x] [] M P := by
  obtain ⟨t, l, p, a, sl, v, sd⟩ := s
  obtain ⟨h0, h1, h2, h3, h11, h4, h5, h6, h7⟩ : kRt M sd ∧ kTx M t ∧ kLt M l ∧ kP M 8 p ∧ (∃ p, kP M 11 p) ∧ kAc M a ∧ kOv M v ∧ kSl M sl ∧ ∃ o, kTm M o := id h
  obtain ⟨o1, o2, o3, o4, o5, o6, o7⟩ : txOk t ∧ ltOk l ∧ pgOk p ∧ (∀ q ∈ a, pgOk q) ∧ a.length ≤ 14 ∧ (∀ i q, sl i = some q → pgOk q) ∧ ovOk v := ho
  have x2 := h2.1
  have hl6 : l.1 ≤ 6 := o2.1
  have h64 : 2 ^ l.1 ≤ 2 ^ 6 := pw_le hl6
  have h0p : 0 < 2 ^ l.1 := Nat.two_pow_pos _
  unfold kRt at h0
  unfold a_shows at hp
  cases hx : inR x (2 ^ l.1) with
  | true =>
    rw [if_pos hx] at hp
    obtain ⟨i, hi, rfl⟩ := inR_of hx (by omega)
    rw [n_cl (by omega)] at hp
    refine ev_iload_n (i := 1) dX7_shows_0 rfl rfl ?_
    refine ev_if_ltN 15 dX7_shows_1 (by decide) (by omega) (fun b1 => by exfalso; omega) (fun b1 => ?_)
    refine ev_iload_n (i := 1) dX7_shows_4 rfl rfl ?_
    refine ev_aload_n (i := 0) dX7_shows_5 rfl rfl ?_
    refine ev_getfield dX7_shows_6 fX7_19 (by first | omega | decide) (by first | assumption | (simp (disch := omega) only [mu_s, mu_n]; first | assumption | rfl)) (by rfl) ?_
    refine ev_V0 (μ1 := mX1_all) dX7_shows_9 sX7_160 okX1_all (by first | omega | decide) (by first | assumption | (simp (disch := omega) only [mu_s, mu_n]; first | assumption | rfl)) (Nat.le_of_ble_eq_true rfl) (Nat.le_of_ble_eq_true rfl) ?_
    refine c_X1_all h2 o2 ?_
    refine ev_icmp_leN 20 dX7_shows_12 (by decide) (by omega) (by omega) (fun b12 => ?_) (fun b12 => by exfalso; omega)
    refine ev_aload_n (i := 0) dX7_shows_20 rfl rfl ?_
    refine ev_getfield dX7_shows_21 fX7_19 (by first | omega | decide) (by first | assumption | (simp (disch := omega) only [mu_s, mu_n]; first | assumption | rfl)) (by rfl) ?_
    refine ev_iload_n (i := 1) dX7_shows_24 rfl rfl ?_
    refine ev_V1 (μ1 := mX1_shownBy) dX7_shows_25 sX7_163 okX1_shownBy (by first | omega | decide) (by first | assumption | (simp (disch := omega) only [mu_s, mu_n]; first | assumption | rfl)) (Nat.le_of_ble_eq_true rfl) (Nat.le_of_ble_eq_true rfl) ?_
    refine c_X1_shownBy h2 o2 (by omega) ?_
    refine ev_reti dX7_shows_28 rfl rfl ?_
    exact hp
  | false =>
    rw [hx, if_neg (by decide)] at hp
    rcases inR_no hx (by omega) with hx1 | ⟨hx1, hx2⟩
    · skip
      refine ev_iload_n (i := 1) dX7_shows_0 rfl rfl ?_
      refine ev_if_lt 15 dX7_shows_1 (by decide) (fun b1 => ?_) (fun b1 => absurd hx1 b1)
      refine ev_bipush (v := (-2)) dX7_shows_15 rfl ?_
      refine ev_goto 28 dX7_shows_17 (by decide) ?_
      refine ev_reti dX7_shows_28 rfl rfl ?_
      exact hp
    · have hx3 : ¬ x ≤ nI (2 ^ l.1 - 1) := Int32.not_le.mpr (nI_lt_of_le (by rw [show 2 ^ l.1 - 1 + 1 = 2 ^ l.1 by omega]; exact hx2) (by omega))
      refine ev_iload_n (i := 1) dX7_shows_0 rfl rfl ?_
      refine ev_if_lt 15 dX7_shows_1 (by decide) (fun b1 => absurd b1 hx1) (fun b1 => ?_)
      refine ev_iload_n (i := 1) dX7_shows_4 rfl rfl ?_
      refine ev_aload_n (i := 0) dX7_shows_5 rfl rfl ?_
      refine ev_getfield dX7_shows_6 fX7_19 (by first | omega | decide) (by first | assumption | (simp (disch := omega) only [mu_s, mu_n]; first | assumption | rfl)) (by rfl) ?_
      refine ev_V0 (μ1 := mX1_all) dX7_shows_9 sX7_160 okX1_all (by first | omega | decide) (by first | assumption | (simp (disch := omega) only [mu_s, mu_n]; first | assumption | rfl)) (Nat.le_of_ble_eq_true rfl) (Nat.le_of_ble_eq_true rfl) ?_
      refine c_X1_all h2 o2 ?_
      refine ev_icmp_le 20 dX7_shows_12 (by decide) (fun b12 => absurd b12 hx3) (fun b12 => ?_)
      refine ev_bipush (v := (-2)) dX7_shows_15 rfl ?_
      refine ev_goto 28 dX7_shows_17 (by decide) ?_
      refine ev_reti dX7_shows_28 rfl rfl ?_
      exact hp
end CLS
