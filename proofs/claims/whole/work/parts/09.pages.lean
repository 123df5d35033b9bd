/-! ===== pages: ink, what is on top, the day ===== -/
abbrev pg : Type := (Nat → Nat) × (Nat → Option Nat) × Int32
def tI (o : Option Nat) : Int32 := match o with
  | none => (-9)
  | some l => nI l
def pgOk (p : pg) : Prop := ∀ c, c < 12 → p.1 c ≤ 9 ∧ ∀ l, p.2.1 c = some l → l < 6
def kP (M : mM) (k : Nat) (p : pg) : Prop := ∃ f g, kS M k f g p.2.2 ∧ (∀ c, c < 12 → f c = nI (p.1 c)) ∧ ∀ c, c < 12 → g c = tI (p.2.1 c)
/-- only cells a .. b - 1 may differ -/
def ag (M M1 : mM) (a b : Nat) : Prop := ∀ i, (i < a ∨ b ≤ i) → M1 i = M i
theorem ag_rf (M : mM) (a b : Nat) : ag M M a b := fun _ _ => rfl
theorem ag_mu {M M1 : mM} {a b i : Nat} {c : mC} (h : ag M M1 a b) (h1 : a ≤ i) (h2 : i < b) : ag M (mu M1 i c) a b := fun j hj => by
  rw [mu_n (by omega)]
  exact h j hj
theorem ag_tr {M M1 M2 : mM} {a b a1 b1 a2 b2 : Nat} (h1 : ag M M1 a1 b1) (h2 : ag M1 M2 a2 b2) (x1 : a ≤ a1 := by omega) (x2 : b1 ≤ b := by omega) (x3 : a ≤ a2 := by omega) (x4 : b2 ≤ b := by omega) : ag M M2 a b := fun j hj => by
  rw [h2 j (by omega), h1 j (by omega)]
theorem ag_wd {M M1 : mM} {a b a1 b1 : Nat} (h : ag M M1 a1 b1) (x1 : a ≤ a1 := by omega) (x2 : b1 ≤ b := by omega) : ag M M1 a b := fun j hj => h j (by omega)
theorem kS_ag {M M1 : mM} {k a b : Nat} {f g : Nat → Int32} {dy : Int32} (h : kS M k f g dy) (hg : ag M M1 a b) (hx : b ≤ k ∨ k + 3 ≤ a) : kS M1 k f g dy := ⟨(hg _ (by omega)).trans h.1, (hg _ (by omega)).trans h.2.1, (hg _ (by omega)).trans h.2.2⟩
theorem kP_ag {M M1 : mM} {k a b : Nat} {p : pg} (h : kP M k p) (hg : ag M M1 a b) (hx : b ≤ k ∨ k + 3 ≤ a) : kP M1 k p := by
  obtain ⟨f, g, h1, h2⟩ := h
  exact ⟨f, g, kS_ag h1 hg hx, h2⟩
theorem kS_1 {M : mM} {k : Nat} {f g : Nat → Int32} {dy : Int32} (h : kS M k f g dy) (f1 : Nat → Int32) : kS (mu M (k + 1) (.inl (0, 12, .inl f1))) k f1 g dy := ⟨(mu_n (by omega)).trans h.1, mu_s _ _ _, (mu_n (by omega)).trans h.2.2⟩
theorem kS_2 {M : mM} {k : Nat} {f g : Nat → Int32} {dy : Int32} (h : kS M k f g dy) (g1 : Nat → Int32) : kS (mu M (k + 2) (.inl (0, 12, .inl g1))) k f g1 dy := ⟨(mu_n (by omega)).trans h.1, (mu_n (by omega)).trans h.2.1, mu_s _ _ _⟩
theorem kS_0 {M : mM} {k : Nat} {f g : Nat → Int32} {dy : Int32} (h : kS M k f g dy) (d1 : Int32) : kS (mu M k (.inr (3, [.ref (k + 1), .ref (k + 2), .int d1]))) k f g d1 := ⟨mu_s _ _ _, (mu_n (by omega)).trans h.2.1, (mu_n (by omega)).trans h.2.2⟩
/-- a row written at c, by what it should hold below c and from c on -/
theorem wr_s {α : Type} {f : Nat → Int32} {F : α → Int32} {nw old : Nat → α} {c : Nat} {v : Int32} (h : ∀ i, i < 12 → f i = F (if i < c then nw i else old i)) (hv : v = F (nw c)) : ∀ i, i < 12 → upd f c v i = F (if i < c + 1 then nw i else old i) := by
  intro i hi
  unfold upd
  by_cases e : i = c
  · subst e
    rw [if_pos rfl, if_pos (by omega), hv]
  · rw [if_neg e, h i hi]
    have : (i < c + 1) ↔ i < c := by omega
    simp only [this]
theorem wr_k {α : Type} {f : Nat → Int32} {F : α → Int32} {nw old : Nat → α} {c : Nat} (h : ∀ i, i < 12 → f i = F (if i < c then nw i else old i)) (hv : F (nw c) = F (old c)) : ∀ i, i < 12 → f i = F (if i < c + 1 then nw i else old i) := by
  intro i hi
  rw [h i hi]
  by_cases e : i = c
  · subst e
    rw [if_neg (by omega), if_pos (by omega), hv]
  · have : (i < c + 1) ↔ i < c := by omega
    simp only [this]
theorem wr_0 {α : Type} {f : Nat → Int32} {F : α → Int32} {nw old : Nat → α} (h : ∀ i, i < 12 → f i = F (old i)) : ∀ i, i < 12 → f i = F (if i < 0 then nw i else old i) := fun i hi => by rw [if_neg (by omega)]; exact h i hi
theorem wr_e {α : Type} {f : Nat → Int32} {F : α → Int32} {nw old : Nat → α} (h : ∀ i, i < 12 → f i = F (if i < 12 then nw i else old i)) : ∀ i, i < 12 → f i = F (nw i) := fun i hi => by rw [h i hi, if_pos hi]
def pgNew (dy : Int32) : pg := (fun _ => 0, fun _ => none, dy)
def pgClean (c : Nat) (p : pg) : pg := (fun i => if i = c then 0 else p.1 i, fun i => if i = c then none else p.2.1 i, p.2.2)
def pgPress (cs fo l : Nat) (p : pg) : pg := (fun c => if 0 < fo ∧ cs.testBit c = true then min 9 (p.1 c + fo) else p.1 c, fun c => if 0 < fo ∧ cs.testBit c = true then some l else p.2.1 c, p.2.2)
def pgDay (p : pg) : pg := (fun c => p.1 c - 1, fun c => if p.1 c ≤ 1 then none else p.2.1 c, p.2.2 + nI 1)
theorem pgNew_ok (dy : Int32) : pgOk (pgNew dy) := fun _ _ => ⟨Nat.zero_le _, fun _ h => by cases h⟩
theorem pgClean_ok {c : Nat} {p : pg} (h : pgOk p) : pgOk (pgClean c p) := fun i hi => by
  obtain ⟨h1, h2⟩ := h i hi
  unfold pgClean
  refine ⟨?_, fun l => ?_⟩
  · show (if i = c then 0 else p.1 i) ≤ 9
    split <;> omega
  · show (if i = c then none else p.2.1 i) = some l → l < 6
    split
    · intro z; cases z
    · exact h2 l
theorem pgPress_ok {cs fo l : Nat} {p : pg} (h : pgOk p) (hl : l < 6) : pgOk (pgPress cs fo l p) := fun i hi => by
  obtain ⟨h1, h2⟩ := h i hi
  unfold pgPress
  refine ⟨?_, fun x => ?_⟩
  · show (if 0 < fo ∧ cs.testBit i = true then min 9 (p.1 i + fo) else p.1 i) ≤ 9
    split <;> omega
  · show (if 0 < fo ∧ cs.testBit i = true then some l else p.2.1 i) = some x → x < 6
    split
    · intro z; cases z; exact hl
    · exact h2 x
theorem pgDay_ok {p : pg} (h : pgOk p) : pgOk (pgDay p) := fun i hi => by
  obtain ⟨h1, h2⟩ := h i hi
  unfold pgDay
  refine ⟨?_, fun x => ?_⟩
  · show p.1 i - 1 ≤ 9
    omega
  · show (if p.1 i ≤ 1 then none else p.2.1 i) = some x → x < 6
    split
    · intro z; cases z
    · exact h2 x
theorem n_min {x : Nat} (h : x < 2 ^ 31) : (if nI x < nI 9 then nI x else nI 9) = nI (min 9 x) := by
  by_cases q : x < 9
  · rw [if_pos ((nI_ltI h (by decide)).mpr q), Nat.min_eq_right (by omega)]
  · rw [if_neg (fun z => q ((nI_ltI h (by decide)).mp z)), Nat.min_eq_left (by omega)]
section PAG
variable {N d k : Nat} {M : mM} {P : Option Value → mM → Prop} {p : pg}
theorem q_shownIn {n : Nat} (hk : k + 2 < N) (h : kP M k p) (ho : pgOk p) (hn : n < 2 ^ 31) (hp : P (some (.int (nI (shN p.1 n)))) M) : Ev N d mX3_shownIn none 0 [.ref k, .int (nI n), .null, .null] [] M P := by
  obtain ⟨f, g, h1, h2, -⟩ := h
  exact c_X3_shownIn hk h1 (fun c hc => ⟨h2 c hc, (ho c hc).1⟩) hn hp
theorem q_renew (hk : k + 2 < N) (h : kP M k p) (hp : ∀ M1, ag M M1 k (k + 3) → kP M1 k (pgNew p.2.2) → P none M1) : Ev N (d + 2) mX3_renew none 0 [.ref k, .null] [] M P := by
  obtain ⟨f, g, h1, h2, h3⟩ := h
  refine c_X3_renew hk h1 (hp _ (ag_mu (ag_mu (ag_rf M _ _) (by omega) (by omega)) (by omega) (by omega)) ⟨_, _, kS_2 (kS_1 h1 _) _, fun c hc => ?_, fun c hc => ?_⟩)
  · show (if c < 12 then nI 0 else f c) = _
    rw [if_pos hc]; rfl
  · show (if c < 12 then (-9) else g c) = _
    rw [if_pos hc]; rfl
theorem q_clean {c : Nat} (hk : k + 2 < N) (h : kP M k p) (hc : c < 12) (hp : ∀ M1, ag M M1 k (k + 3) → kP M1 k (pgClean c p) → P none M1) : Ev N (d + 1) mX3_clean none 0 [.ref k, .int (nI c)] [] M P := by
  obtain ⟨f, g, h1, h2, h3⟩ := h
  refine c_X3_clean hk h1 hc (hp _ (ag_mu (ag_mu (ag_rf M _ _) (by omega) (by omega)) (by omega) (by omega)) ⟨_, _, kS_2 (kS_1 h1 _) _, fun i hi => ?_, fun i hi => ?_⟩)
  · show (if i = c then nI 0 else f i) = nI (if i = c then 0 else p.1 i)
    split
    · rfl
    · exact h2 i hi
  · show (if i = c then (-9) else g i) = tI (if i = c then none else p.2.1 i)
    split
    · rfl
    · exact h3 i hi
theorem q_addInk {cs fo l : Nat} (hk : k + 2 < N) (h : kP M k p) (ho : pgOk p) (hcs : cs < 2 ^ 31) (hfo : fo ≤ 4) (hp : ∀ M1, ag M M1 k (k + 3) → kP M1 k (pgPress cs fo l p) → P none M1) : Ev N (d + 1) mX3_addInk none 0 [.ref k, .int (nI cs), .int (nI fo), .int (nI l), .null] [] M P := by
  obtain ⟨f, g, h1, h2, h3⟩ := h
  have lp : ∀ (j c : Nat) (M1 : mM) (f1 g1 : Nat → Int32), c + j = 12 → ag M M1 k (k + 3) → kS M1 k f1 g1 p.2.2 → (∀ i, i < 12 → f1 i = nI (if i < c then (pgPress cs fo l p).1 i else p.1 i)) → (∀ i, i < 12 → g1 i = tI (if i < c then (pgPress cs fo l p).2.1 i else p.2.1 i)) → Ev N (d + 1) mX3_addInk none 3 [.ref k, .int (nI cs), .int (nI fo), .int (nI l), .int (nI c)] [] M1 P := by
    intro j
    induction j with
    | zero =>
      intro c M1 f1 g1 hc ha hs e1 e2
      obtain rfl : c = 12 := by omega
      refine ev_iload (i := 4) dX3_addInk_3 rfl ?_
      refine ev_bipush (v := nI 12) dX3_addInk_5 rfl ?_
      refine ev_icmp_geN 59 dX3_addInk_7 (by decide) (by omega) (by omega) (fun b7 => ?_) (fun b7 => by exfalso; omega)
      refine ev_ret0 dX3_addInk_59 rfl ?_
      exact hp M1 ha ⟨f1, g1, hs, wr_e e1, wr_e e2⟩
    | succ j ih =>
      intro c M1 f1 g1 hc ha hs e1 e2
      obtain ⟨x0, x1, x2⟩ := id hs
      have hc9 := (ho c (by omega)).1
      have hv : f1 c = nI (p.1 c) := by rw [e1 c (by omega), if_neg (by omega)]
      refine ev_iload (i := 4) dX3_addInk_3 rfl ?_
      refine ev_bipush (v := nI 12) dX3_addInk_5 rfl ?_
      refine ev_icmp_geN 59 dX3_addInk_7 (by decide) (by omega) (by omega) (fun b7 => by exfalso; omega) (fun b7 => ?_)
      refine ev_iload_n (i := 2) dX3_addInk_10 rfl rfl ?_
      refine ev_if_leN 53 dX3_addInk_11 (by decide) (by omega) (fun b11 => ?_) (fun b11 => ?_)
      · skip
        refine ev_incN dX3_addInk_53 (by rfl) (by decide) rfl ?_
        refine ev_goto 3 dX3_addInk_56 (by decide) ?_
        first
        | exact ih _ M1 f1 g1 (by omega) ha hs (wr_k e1 (by unfold pgPress; simp only []; rw [if_neg (by omega)])) (wr_k e2 (by unfold pgPress; simp only []; rw [if_neg (by omega)]))
        | exact ih _ M1 f1 g1 (by omega) ha hs (wr_k e1 (by unfold pgPress; simp only []; rw [if_neg (fun z => b21 ((tb_d cs c).mpr z.2))])) (wr_k e2 (by unfold pgPress; simp only []; rw [if_neg (fun z => b21 ((tb_d cs c).mpr z.2))]))
        | exact ih _ _ _ _ (by omega) (ag_mu (ag_mu ha (by omega) (by omega)) (by omega) (by omega)) (kS_2 (kS_1 hs _) _) (wr_s e1 (by unfold pgPress; simp only []; rw [if_pos ⟨b11, (tb_d cs c).mp b21⟩])) (wr_s e2 (by unfold pgPress; simp only []; rw [if_pos ⟨b11, (tb_d cs c).mp b21⟩]; rfl))
      · skip
        refine ev_iload_n (i := 1) dX3_addInk_14 rfl rfl ?_
        refine ev_iload (i := 4) dX3_addInk_15 rfl ?_
        refine ev_ishrN dX3_addInk_17 (by omega) (by omega) ?_
        refine ev_iconst (v := nI 1) dX3_addInk_18 rfl ?_
        refine ev_iand1 dX3_addInk_19 ?_
        refine ev_iconst (v := nI 1) dX3_addInk_20 rfl ?_
        refine ev_icmp_neN 53 dX3_addInk_21 (by decide) (by omega) (by omega) (fun b21 => ?_) (fun b21 => ?_)
        · skip
          refine ev_incN dX3_addInk_53 (by rfl) (by decide) rfl ?_
          refine ev_goto 3 dX3_addInk_56 (by decide) ?_
          first
          | exact ih _ M1 f1 g1 (by omega) ha hs (wr_k e1 (by unfold pgPress; simp only []; rw [if_neg (by omega)])) (wr_k e2 (by unfold pgPress; simp only []; rw [if_neg (by omega)]))
          | exact ih _ M1 f1 g1 (by omega) ha hs (wr_k e1 (by unfold pgPress; simp only []; rw [if_neg (fun z => b21 ((tb_d cs c).mpr z.2))])) (wr_k e2 (by unfold pgPress; simp only []; rw [if_neg (fun z => b21 ((tb_d cs c).mpr z.2))]))
          | exact ih _ _ _ _ (by omega) (ag_mu (ag_mu ha (by omega) (by omega)) (by omega) (by omega)) (kS_2 (kS_1 hs _) _) (wr_s e1 (by unfold pgPress; simp only []; rw [if_pos ⟨b11, (tb_d cs c).mp b21⟩])) (wr_s e2 (by unfold pgPress; simp only []; rw [if_pos ⟨b11, (tb_d cs c).mp b21⟩]; rfl))
        · skip
          refine ev_aload_n (i := 0) dX3_addInk_24 rfl rfl ?_
          refine ev_getfield dX3_addInk_25 fX3_9 (by first | omega | decide) (by first | assumption | (simp (disch := omega) only [mu_s, mu_n]; first | assumption | rfl)) (by rfl) ?_
          refine ev_iload (i := 4) dX3_addInk_28 rfl ?_
          refine ev_bipush (v := nI 9) dX3_addInk_30 rfl ?_
          refine ev_aload_n (i := 0) dX3_addInk_32 rfl rfl ?_
          refine ev_getfield dX3_addInk_33 fX3_9 (by first | omega | decide) (by first | assumption | (simp (disch := omega) only [mu_s, mu_n]; first | assumption | rfl)) (by rfl) ?_
          refine ev_iload (i := 4) dX3_addInk_36 rfl ?_
          refine ev_ialoadN dX3_addInk_38 (by first | omega | decide) (by first | assumption | (simp (disch := omega) only [mu_s, mu_n]; first | assumption | rfl)) (by omega) (by decide) ?_
          refine ev_top (i_op hv) ?_
          refine ev_iload_n (i := 2) dX3_addInk_39 rfl rfl ?_
          refine ev_iaddN dX3_addInk_40 ?_
          refine ev_min dX3_addInk_41 sX3_29 (by omega) (Nat.le_of_ble_eq_true rfl) ?_
          refine ev_top (i_op (n_min (by omega))) ?_
          refine ev_iastoreN dX3_addInk_44 (by first | omega | decide) (by first | assumption | (simp (disch := omega) only [mu_s, mu_n]; first | assumption | rfl)) (by omega) (by decide) ?_
          refine ev_aload_n (i := 0) dX3_addInk_45 rfl rfl ?_
          refine ev_getfield dX3_addInk_46 fX3_15 (by first | omega | decide) (by first | assumption | (simp (disch := omega) only [mu_s, mu_n]; first | assumption | rfl)) (by rfl) ?_
          refine ev_iload (i := 4) dX3_addInk_49 rfl ?_
          refine ev_iload_n (i := 3) dX3_addInk_51 rfl rfl ?_
          refine ev_iastoreN dX3_addInk_52 (by first | omega | decide) (by first | assumption | (simp (disch := omega) only [mu_s, mu_n]; first | assumption | rfl)) (by omega) (by decide) ?_
          refine ev_incN dX3_addInk_53 (by rfl) (by decide) rfl ?_
          refine ev_goto 3 dX3_addInk_56 (by decide) ?_
          first
          | exact ih _ M1 f1 g1 (by omega) ha hs (wr_k e1 (by unfold pgPress; simp only []; rw [if_neg (by omega)])) (wr_k e2 (by unfold pgPress; simp only []; rw [if_neg (by omega)]))
          | exact ih _ M1 f1 g1 (by omega) ha hs (wr_k e1 (by unfold pgPress; simp only []; rw [if_neg (fun z => b21 ((tb_d cs c).mpr z.2))])) (wr_k e2 (by unfold pgPress; simp only []; rw [if_neg (fun z => b21 ((tb_d cs c).mpr z.2))]))
          | exact ih _ _ _ _ (by omega) (ag_mu (ag_mu ha (by omega) (by omega)) (by omega) (by omega)) (kS_2 (kS_1 hs _) _) (wr_s e1 (by unfold pgPress; simp only []; rw [if_pos ⟨b11, (tb_d cs c).mp b21⟩])) (wr_s e2 (by unfold pgPress; simp only []; rw [if_pos ⟨b11, (tb_d cs c).mp b21⟩]; rfl))
  refine ev_iconst (v := nI 0) dX3_addInk_0 rfl ?_
  refine ev_istore (i := 4) dX3_addInk_1 (by decide) rfl ?_
  exact lp 12 0 M f g rfl (ag_rf M _ _) h1 (wr_0 h2) (wr_0 h3)
theorem q_dry (hk : k + 2 < N) (h : kP M k p) (ho : pgOk p) (hp : ∀ M1, ag M M1 k (k + 3) → kP M1 k (pgDay p) → P none M1) : Ev N (d + 2) mX3_dry none 0 [.ref k, .null] [] M P := by
  obtain ⟨f, g, h1, h2, h3⟩ := h
  have lp : ∀ (j c : Nat) (M1 : mM) (f1 g1 : Nat → Int32), c + j = 12 → ag M M1 k (k + 3) → kS M1 k f1 g1 p.2.2 → (∀ i, i < 12 → f1 i = nI (if i < c then (pgDay p).1 i else p.1 i)) → (∀ i, i < 12 → g1 i = tI (if i < c then (pgDay p).2.1 i else p.2.1 i)) → Ev N (d + 2) mX3_dry none 2 [.ref k, .int (nI c)] [] M1 P := by
    intro j
    induction j with
    | zero =>
      intro c M1 f1 g1 hc ha hs e1 e2
      obtain rfl : c = 12 := by omega
      obtain ⟨x0, x1, x2⟩ := id hs
      refine ev_iload_n (i := 1) dX3_dry_2 rfl rfl ?_
      refine ev_bipush (v := nI 12) dX3_dry_3 rfl ?_
      refine ev_icmp_geN 42 dX3_dry_5 (by decide) (by omega) (by omega) (fun b5 => ?_) (fun b5 => by exfalso; omega)
      refine ev_aload_n (i := 0) dX3_dry_42 rfl rfl ?_
      refine ev_dup dX3_dry_43 rfl ?_
      refine ev_getfield dX3_dry_44 fX3_35 (by first | omega | decide) (by first | assumption | (simp (disch := omega) only [mu_s, mu_n]; first | assumption | rfl)) (by rfl) ?_
      refine ev_iconst (v := nI 1) dX3_dry_47 rfl ?_
      refine ev_iadd dX3_dry_48 ?_
      refine ev_putI dX3_dry_49 fwX3_35 (by first | omega | decide) (by first | assumption | (simp (disch := omega) only [mu_s, mu_n]; first | assumption | rfl)) (Nat.le_of_ble_eq_true rfl) ?_
      refine ev_ret0 dX3_dry_52 rfl ?_
      exact hp _ (ag_mu ha (by omega) (by omega)) ⟨f1, g1, kS_0 hs _, wr_e e1, wr_e e2⟩
    | succ j ih =>
      intro c M1 f1 g1 hc ha hs e1 e2
      obtain ⟨x0, x1, x2⟩ := id hs
      have hc9 := (ho c (by omega)).1
      have hv : f1 c = nI (p.1 c) := by rw [e1 c (by omega), if_neg (by omega)]
      refine ev_iload_n (i := 1) dX3_dry_2 rfl rfl ?_
      refine ev_bipush (v := nI 12) dX3_dry_3 rfl ?_
      refine ev_icmp_geN 42 dX3_dry_5 (by decide) (by omega) (by omega) (fun b5 => by exfalso; omega) (fun b5 => ?_)
      refine ev_aload_n (i := 0) dX3_dry_8 rfl rfl ?_
      refine ev_getfield dX3_dry_9 fX3_9 (by first | omega | decide) (by first | assumption | (simp (disch := omega) only [mu_s, mu_n]; first | assumption | rfl)) (by rfl) ?_
      refine ev_iload_n (i := 1) dX3_dry_12 rfl rfl ?_
      refine ev_ialoadN dX3_dry_13 (by first | omega | decide) (by first | assumption | (simp (disch := omega) only [mu_s, mu_n]; first | assumption | rfl)) (by omega) (by decide) ?_
      refine ev_top (i_op hv) ?_
      refine ev_iconst (v := nI 1) dX3_dry_14 rfl ?_
      refine ev_icmp_leN 31 dX3_dry_15 (by decide) (by omega) (by omega) (fun b15 => ?_) (fun b15 => ?_)
      · skip
        refine ev_aload_n (i := 0) dX3_dry_31 rfl rfl ?_
        refine ev_iload_n (i := 1) dX3_dry_32 rfl rfl ?_
        refine ev_V1 (μ1 := mX3_clean) dX3_dry_33 sX3_21 okX3_clean (by first | omega | decide) (by first | assumption | (simp (disch := omega) only [mu_s, mu_n]; first | assumption | rfl)) (Nat.le_of_ble_eq_true rfl) (Nat.le_of_ble_eq_true rfl) ?_
        refine c_X3_clean hk hs (by omega) ?_
        refine ev_incN dX3_dry_36 (by rfl) (by decide) rfl ?_
        refine ev_goto 2 dX3_dry_39 (by decide) ?_
        first
        | exact ih _ _ _ _ (by omega) (ag_mu ha (by omega) (by omega)) (kS_1 hs _) (wr_s e1 rfl) (wr_k e2 (by unfold pgDay; simp only []; rw [if_neg (by omega)]))
        | exact ih _ _ _ _ (by omega) (ag_mu (ag_mu ha (by omega) (by omega)) (by omega) (by omega)) (kS_2 (kS_1 hs _) _) (wr_s e1 (congrArg nI (show 0 = p.1 c - 1 by omega))) (wr_s e2 (by unfold pgDay; simp only []; rw [if_pos (by omega)]; rfl))
      · skip
        refine ev_aload_n (i := 0) dX3_dry_18 rfl rfl ?_
        refine ev_getfield dX3_dry_19 fX3_9 (by first | omega | decide) (by first | assumption | (simp (disch := omega) only [mu_s, mu_n]; first | assumption | rfl)) (by rfl) ?_
        refine ev_iload_n (i := 1) dX3_dry_22 rfl rfl ?_
        refine ev_dup2 dX3_dry_23 rfl rfl ?_
        refine ev_ialoadN dX3_dry_24 (by first | omega | decide) (by first | assumption | (simp (disch := omega) only [mu_s, mu_n]; first | assumption | rfl)) (by omega) (by decide) ?_
        refine ev_top (i_op hv) ?_
        refine ev_iconst (v := nI 1) dX3_dry_25 rfl ?_
        refine ev_isubN dX3_dry_26 (by omega) ?_
        refine ev_iastoreN dX3_dry_27 (by first | omega | decide) (by first | assumption | (simp (disch := omega) only [mu_s, mu_n]; first | assumption | rfl)) (by omega) (by decide) ?_
        refine ev_goto 36 dX3_dry_28 (by decide) ?_
        refine ev_incN dX3_dry_36 (by rfl) (by decide) rfl ?_
        refine ev_goto 2 dX3_dry_39 (by decide) ?_
        first
        | exact ih _ _ _ _ (by omega) (ag_mu ha (by omega) (by omega)) (kS_1 hs _) (wr_s e1 rfl) (wr_k e2 (by unfold pgDay; simp only []; rw [if_neg (by omega)]))
        | exact ih _ _ _ _ (by omega) (ag_mu (ag_mu ha (by omega) (by omega)) (by omega) (by omega)) (kS_2 (kS_1 hs _) _) (wr_s e1 (congrArg nI (show 0 = p.1 c - 1 by omega))) (wr_s e2 (by unfold pgDay; simp only []; rw [if_pos (by omega)]; rfl))
  refine ev_iconst (v := nI 0) dX3_dry_0 rfl ?_
  refine ev_istore_n (i := 1) dX3_dry_1 rfl (by decide) rfl ?_
  exact lp 12 0 M f g rfl (ag_rf M _ _) h1 (wr_0 h2) (wr_0 h3)
theorem q_allInk (hk : k + 2 < N) (h : kP M k p) (hp : P (some (.int (nI (sN p.1 12)))) M) : Ev N d mX3_allInk none 0 [.ref k, .null, .null] [] M P := by
  obtain ⟨f, g, ⟨x0, x1, x2⟩, h2, h3⟩ := h
  have lp : ∀ (j c acc : Nat), c + j = 12 → acc = sN p.1 c → Ev N d mX3_allInk none 4 [.ref k, .int (nI acc), .int (nI c)] [] M P := by
    intro j
    induction j with
    | zero =>
      intro c acc hc ha
      obtain rfl : c = 12 := by omega
      subst ha
      refine ev_iload_n (i := 2) dX3_allInk_4 rfl rfl ?_
      refine ev_bipush (v := nI 12) dX3_allInk_5 rfl ?_
      refine ev_icmp_geN 25 dX3_allInk_7 (by decide) (by omega) (by omega) (fun b7 => ?_) (fun b7 => by exfalso; omega)
      refine ev_iload_n (i := 1) dX3_allInk_25 rfl rfl ?_
      refine ev_reti dX3_allInk_26 rfl rfl ?_
      exact hp
    | succ j ih =>
      intro c acc hc ha
      have hv := h2 c (by omega)
      refine ev_iload_n (i := 2) dX3_allInk_4 rfl rfl ?_
      refine ev_bipush (v := nI 12) dX3_allInk_5 rfl ?_
      refine ev_icmp_geN 25 dX3_allInk_7 (by decide) (by omega) (by omega) (fun b7 => by exfalso; omega) (fun b7 => ?_)
      refine ev_iload_n (i := 1) dX3_allInk_10 rfl rfl ?_
      refine ev_aload_n (i := 0) dX3_allInk_11 rfl rfl ?_
      refine ev_getfield dX3_allInk_12 fX3_9 (by first | omega | decide) (by first | assumption | (simp (disch := omega) only [mu_s, mu_n]; first | assumption | rfl)) (by rfl) ?_
      refine ev_iload_n (i := 2) dX3_allInk_15 rfl rfl ?_
      refine ev_ialoadN dX3_allInk_16 (by first | omega | decide) (by first | assumption | (simp (disch := omega) only [mu_s, mu_n]; first | assumption | rfl)) (by omega) (by decide) ?_
      refine ev_top (i_op hv) ?_
      refine ev_iaddN dX3_allInk_17 ?_
      refine ev_istore_n (i := 1) dX3_allInk_18 rfl (by decide) rfl ?_
      refine ev_incN dX3_allInk_19 (by rfl) (by decide) rfl ?_
      refine ev_goto 4 dX3_allInk_22 (by decide) ?_
      exact ih _ _ (by omega) (by rw [ha]; rfl)
  refine ev_iconst (v := nI 0) dX3_allInk_0 rfl ?_
  refine ev_istore_n (i := 1) dX3_allInk_1 rfl (by decide) rfl ?_
  refine ev_iconst (v := nI 0) dX3_allInk_2 rfl ?_
  refine ev_istore_n (i := 2) dX3_allInk_3 rfl (by decide) rfl ?_
  exact lp 12 0 0 rfl rfl
def topsN (p : pg) : Nat := oN (fun c => (p.2.1 c).isSome) (fun c => 2 ^ (p.2.1 c).getD 0) 12
theorem tI_9 {o : Option Nat} (h : ∀ l, o = some l → l < 6) : tI o = (-9) ↔ o = none := by
  cases o with
  | none => exact ⟨fun _ => rfl, fun _ => rfl⟩
  | some l =>
    refine ⟨fun z => ?_, fun z => by cases z⟩
    have h1 := h l rfl
    have h2 : (nI l).toInt = (-9 : Int32).toInt := congrArg Int32.toInt z
    rw [nI_toInt (by omega)] at h2
    exact absurd h2 (by rw [show (-9 : Int32).toInt = -9 from rfl]; omega)
theorem q_onTop (hk : k + 2 < N) (h : kP M k p) (ho : pgOk p) (hp : P (some (.int (nI (topsN p)))) M) : Ev N d mX3_onTop none 0 [.ref k, .null, .null] [] M P := by
  obtain ⟨f, g, ⟨x0, x1, x2⟩, h2, h3⟩ := h
  have lp : ∀ (j c acc : Nat), c + j = 12 → acc = oN (fun c => (p.2.1 c).isSome) (fun c => 2 ^ (p.2.1 c).getD 0) c → Ev N d mX3_onTop none 4 [.ref k, .int (nI acc), .int (nI c)] [] M P := by
    intro j
    induction j with
    | zero =>
      intro c acc hc ha
      obtain rfl : c = 12 := by omega
      subst ha
      refine ev_iload_n (i := 2) dX3_onTop_4 rfl rfl ?_
      refine ev_bipush (v := nI 12) dX3_onTop_5 rfl ?_
      refine ev_icmp_geN 38 dX3_onTop_7 (by decide) (by omega) (by omega) (fun b7 => ?_) (fun b7 => by exfalso; omega)
      refine ev_iload_n (i := 1) dX3_onTop_38 rfl rfl ?_
      refine ev_reti dX3_onTop_39 rfl rfl ?_
      exact hp
    | succ j ih =>
      intro c acc hc ha
      have hv := h3 c (by omega)
      have ht := (ho c (by omega)).2
      cases hq : p.2.1 c with
      | none =>
        have hv9 : g c = (-9) := by rw [hv, hq]; rfl
        refine ev_iload_n (i := 2) dX3_onTop_4 rfl rfl ?_
        refine ev_bipush (v := nI 12) dX3_onTop_5 rfl ?_
        refine ev_icmp_geN 38 dX3_onTop_7 (by decide) (by omega) (by omega) (fun b7 => by exfalso; omega) (fun b7 => ?_)
        refine ev_aload_n (i := 0) dX3_onTop_10 rfl rfl ?_
        refine ev_getfield dX3_onTop_11 fX3_15 (by first | omega | decide) (by first | assumption | (simp (disch := omega) only [mu_s, mu_n]; first | assumption | rfl)) (by rfl) ?_
        refine ev_iload_n (i := 2) dX3_onTop_14 rfl rfl ?_
        refine ev_ialoadN dX3_onTop_15 (by first | omega | decide) (by first | assumption | (simp (disch := omega) only [mu_s, mu_n]; first | assumption | rfl)) (by omega) (by decide) ?_
        refine ev_bipush (v := (-9)) dX3_onTop_16 rfl ?_
        refine ev_icmp_eq 32 dX3_onTop_18 (by decide) (fun b18 => ?_) (fun b18 => absurd hv9 b18)
        refine ev_incN dX3_onTop_32 (by rfl) (by decide) rfl ?_
        refine ev_goto 4 dX3_onTop_35 (by decide) ?_
        exact ih _ _ (by omega) (ha.trans (oN_f (by rw [hq]; decide)))
      | some l =>
        have hl6 := ht l hq
        have hv9 : g c = nI l := by rw [hv, hq]; rfl
        have hn9 : ¬ g c = (-9) := by rw [hv]; intro z; rw [(tI_9 ht).mp z] at hq; cases hq
        refine ev_iload_n (i := 2) dX3_onTop_4 rfl rfl ?_
        refine ev_bipush (v := nI 12) dX3_onTop_5 rfl ?_
        refine ev_icmp_geN 38 dX3_onTop_7 (by decide) (by omega) (by omega) (fun b7 => by exfalso; omega) (fun b7 => ?_)
        refine ev_aload_n (i := 0) dX3_onTop_10 rfl rfl ?_
        refine ev_getfield dX3_onTop_11 fX3_15 (by first | omega | decide) (by first | assumption | (simp (disch := omega) only [mu_s, mu_n]; first | assumption | rfl)) (by rfl) ?_
        refine ev_iload_n (i := 2) dX3_onTop_14 rfl rfl ?_
        refine ev_ialoadN dX3_onTop_15 (by first | omega | decide) (by first | assumption | (simp (disch := omega) only [mu_s, mu_n]; first | assumption | rfl)) (by omega) (by decide) ?_
        refine ev_bipush (v := (-9)) dX3_onTop_16 rfl ?_
        refine ev_icmp_eq 32 dX3_onTop_18 (by decide) (fun b18 => absurd b18 hn9) (fun b18 => ?_)
        refine ev_iload_n (i := 1) dX3_onTop_21 rfl rfl ?_
        refine ev_iconst (v := nI 1) dX3_onTop_22 rfl ?_
        refine ev_aload_n (i := 0) dX3_onTop_23 rfl rfl ?_
        refine ev_getfield dX3_onTop_24 fX3_15 (by first | omega | decide) (by first | assumption | (simp (disch := omega) only [mu_s, mu_n]; first | assumption | rfl)) (by rfl) ?_
        refine ev_iload_n (i := 2) dX3_onTop_27 rfl rfl ?_
        refine ev_ialoadN dX3_onTop_28 (by first | omega | decide) (by first | assumption | (simp (disch := omega) only [mu_s, mu_n]; first | assumption | rfl)) (by omega) (by decide) ?_
        refine ev_top (i_op hv9) ?_
        refine ev_ishl1 dX3_onTop_29 (by omega) ?_
        refine ev_iorN dX3_onTop_30 ?_
        refine ev_istore_n (i := 1) dX3_onTop_31 rfl (by decide) rfl ?_
        refine ev_incN dX3_onTop_32 (by rfl) (by decide) rfl ?_
        refine ev_goto 4 dX3_onTop_35 (by decide) ?_
        exact ih _ _ (by omega) (by rw [ha, ← oN_t (p := fun c => (p.2.1 c).isSome) (g := fun c => 2 ^ (p.2.1 c).getD 0) (n := c) (by rw [hq]; rfl), hq]; rfl)
  refine ev_iconst (v := nI 0) dX3_onTop_0 rfl ?_
  refine ev_istore_n (i := 1) dX3_onTop_1 rfl (by decide) rfl ?_
  refine ev_iconst (v := nI 0) dX3_onTop_2 rfl ?_
  refine ev_istore_n (i := 2) dX3_onTop_3 rfl (by decide) rfl ?_
  exact lp 12 0 0 rfl rfl
theorem q_copy {q : Nat} {f0 g0 : Nat → Int32} {d0 : Int32} (hk : k + 2 < N) (hq : q + 2 < N) (hkq : k + 3 ≤ q ∨ q + 3 ≤ k) (h : kP M k p) (h0 : kS M q f0 g0 d0) (hp : ∀ M1, ag M M1 q (q + 3) → kP M1 q p → P none M1) : Ev N d mX7_copy none 0 [.ref k, .ref q, .null] [] M P := by
  obtain ⟨f, g, h1, h2, h3⟩ := h
  have lp : ∀ (j c : Nat) (M1 : mM) (f1 g1 : Nat → Int32), c + j = 12 → ag M M1 q (q + 3) → kS M1 q f1 g1 d0 → (∀ i, i < 12 → f1 i = id (if i < c then f i else f0 i)) → (∀ i, i < 12 → g1 i = id (if i < c then g i else g0 i)) → Ev N d mX7_copy none 11 [.ref k, .ref q, .int (nI c)] [] M1 P := by
    intro j
    induction j with
    | zero =>
      intro c M1 f1 g1 hc ha hs e1 e2
      obtain rfl : c = 12 := by omega
      obtain ⟨x0, x1, x2⟩ := id hs
      obtain ⟨y0, y1, y2⟩ := kS_ag h1 ha (by omega)
      refine ev_iload_n (i := 2) dX7_copy_11 rfl rfl ?_
      refine ev_bipush (v := nI 12) dX7_copy_12 rfl ?_
      refine ev_icmp_geN 47 dX7_copy_14 (by decide) (by omega) (by omega) (fun b14 => ?_) (fun b14 => by exfalso; omega)
      refine ev_aload_n (i := 1) dX7_copy_47 rfl rfl ?_
      refine ev_aload_n (i := 0) dX7_copy_48 rfl rfl ?_
      refine ev_getfield dX7_copy_49 fX7_83 (by first | omega | decide) (by first | assumption | (simp (disch := omega) only [mu_s, mu_n]; first | assumption | rfl)) (by rfl) ?_
      refine ev_putI dX7_copy_52 fwX7_83 (by first | omega | decide) (by first | assumption | (simp (disch := omega) only [mu_s, mu_n]; first | assumption | rfl)) (Nat.le_of_ble_eq_true rfl) ?_
      refine ev_ret0 dX7_copy_55 rfl ?_
      exact hp _ (ag_mu ha (by omega) (by omega)) ⟨f1, g1, kS_0 hs _, fun i hi => (wr_e e1 i hi).trans (h2 i hi), fun i hi => (wr_e e2 i hi).trans (h3 i hi)⟩
    | succ j ih =>
      intro c M1 f1 g1 hc ha hs e1 e2
      obtain ⟨x0, x1, x2⟩ := id hs
      obtain ⟨y0, y1, y2⟩ := kS_ag h1 ha (by omega)
      refine ev_iload_n (i := 2) dX7_copy_11 rfl rfl ?_
      refine ev_bipush (v := nI 12) dX7_copy_12 rfl ?_
      refine ev_icmp_geN 47 dX7_copy_14 (by decide) (by omega) (by omega) (fun b14 => by exfalso; omega) (fun b14 => ?_)
      refine ev_aload_n (i := 1) dX7_copy_17 rfl rfl ?_
      refine ev_getfield dX7_copy_18 fX7_246 (by first | omega | decide) (by first | assumption | (simp (disch := omega) only [mu_s, mu_n]; first | assumption | rfl)) (by rfl) ?_
      refine ev_iload_n (i := 2) dX7_copy_21 rfl rfl ?_
      refine ev_aload_n (i := 0) dX7_copy_22 rfl rfl ?_
      refine ev_getfield dX7_copy_23 fX7_246 (by first | omega | decide) (by first | assumption | (simp (disch := omega) only [mu_s, mu_n]; first | assumption | rfl)) (by rfl) ?_
      refine ev_iload_n (i := 2) dX7_copy_26 rfl rfl ?_
      refine ev_ialoadN dX7_copy_27 (by first | omega | decide) (by first | assumption | (simp (disch := omega) only [mu_s, mu_n]; first | assumption | rfl)) (by omega) (by decide) ?_
      refine ev_iastoreN dX7_copy_28 (by first | omega | decide) (by first | assumption | (simp (disch := omega) only [mu_s, mu_n]; first | assumption | rfl)) (by omega) (by decide) ?_
      refine ev_aload_n (i := 1) dX7_copy_29 rfl rfl ?_
      refine ev_getfield dX7_copy_30 fX7_250 (by first | omega | decide) (by first | assumption | (simp (disch := omega) only [mu_s, mu_n]; first | assumption | rfl)) (by rfl) ?_
      refine ev_iload_n (i := 2) dX7_copy_33 rfl rfl ?_
      refine ev_aload_n (i := 0) dX7_copy_34 rfl rfl ?_
      refine ev_getfield dX7_copy_35 fX7_250 (by first | omega | decide) (by first | assumption | (simp (disch := omega) only [mu_s, mu_n]; first | assumption | rfl)) (by rfl) ?_
      refine ev_iload_n (i := 2) dX7_copy_38 rfl rfl ?_
      refine ev_ialoadN dX7_copy_39 (by first | omega | decide) (by first | assumption | (simp (disch := omega) only [mu_s, mu_n]; first | assumption | rfl)) (by omega) (by decide) ?_
      refine ev_iastoreN dX7_copy_40 (by first | omega | decide) (by first | assumption | (simp (disch := omega) only [mu_s, mu_n]; first | assumption | rfl)) (by omega) (by decide) ?_
      refine ev_incN dX7_copy_41 (by rfl) (by decide) rfl ?_
      refine ev_goto 11 dX7_copy_44 (by decide) ?_
      exact ih _ _ _ _ (by omega) (ag_mu (ag_mu ha (by omega) (by omega)) (by omega) (by omega)) (kS_2 (kS_1 hs _) _) (wr_s e1 rfl) (wr_s e2 rfl)
  refine ev_aload_n (i := 0) dX7_copy_0 rfl rfl ?_
  refine ev_ifnull dX7_copy_1 ?_
  refine ev_aload_n (i := 1) dX7_copy_4 rfl rfl ?_
  refine ev_ifnonnull 9 dX7_copy_5 (by decide) ?_
  refine ev_iconst (v := nI 0) dX7_copy_9 rfl ?_
  refine ev_istore_n (i := 2) dX7_copy_10 rfl (by decide) rfl ?_
  exact lp 12 0 M f0 g0 rfl (ag_rf M _ _) h0 (wr_0 (fun _ _ => rfl)) (wr_0 (fun _ _ => rfl))
end PAG
