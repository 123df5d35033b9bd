def foL (v : ov) (n : Nat) : Nat → Nat → Option (List Nat)
  | 0, _ => some []
  | j + 1, pr => match lf (cfB v n pr) n 0 with
    | none => none
    | some l => (foL v n j (pr ||| 2 ^ l)).map (fun r => l :: r)
def fgL : List Nat → Nat → Nat
  | [], a => a
  | l :: r, a => fgL r (10 * a + l + 1)
theorem fo_L (v : ov) (n : Nat) : ∀ j pr fg, foN v n j pr fg = (foL v n j pr).map (fun q => fgL q fg)
  | 0, _, _ => rfl
  | j + 1, pr, fg => by
    unfold foN foL
    cases h : lf (cfB v n pr) n 0 with
    | none => rfl
    | some l =>
      show foN v n j (pr ||| 2 ^ l) (10 * fg + l + 1) = ((foL v n j (pr ||| 2 ^ l)).map (fun r => l :: r)).map (fun q => fgL q fg)
      rw [fo_L v n j, Option.map_map]
      rfl
theorem sN_ne {g : Nat → Nat} : ∀ {n}, sN g n ≠ 0 → ∃ i, i < n ∧ g i ≠ 0
  | 0, h => absurd rfl h
  | n + 1, h => by
    by_cases z : g n = 0
    · have : sN g n ≠ 0 := fun y => h (by show sN g n + g n = 0; omega)
      obtain ⟨i, h1, h2⟩ := sN_ne this
      exact ⟨i, by omega, h2⟩
    · exact ⟨n, by omega, z⟩
theorem sN_ge {g : Nat → Nat} {i : Nat} : ∀ {n}, i < n → g i ≠ 0 → sN g n ≠ 0
  | n + 1, h, hg => by
    show sN g n + g n ≠ 0
    by_cases z : i = n
    · subst z; omega
    · have := sN_ge (show i < n by omega) hg
      omega
theorem andn_0 (b : Nat) : andn 0 b = 0 := by unfold andn; rw [Nat.zero_or, Nat.xor_self]
theorem cf_mono {v : ov} {n pr l a : Nat} (h : cfB v n pr l = true) (hne : l ≠ a) : cfB v n (pr ||| 2 ^ a) l = true := by
  have h1 := cf_n h
  unfold cfB at h ⊢
  rw [Bool.and_eq_true, decide_eq_true_eq] at h
  rw [← andn_2, h.2, andn_0, Nat.testBit_or, h1, Nat.testBit_two_pow, decide_eq_false (fun z => hne z.symm)]
  rfl
theorem or_cnt {n pr a : Nat} (h6 : n ≤ 6) (hp : pr < 2 ^ n) (ha : a < n) (hb : pr.testBit a = false) : cnt (pr ||| 2 ^ a) = cnt pr + 1 ∧ pr ||| 2 ^ a < 2 ^ n := by
  have h64 : 2 ^ n ≤ 64 := pw_le (b := 6) h6
  rw [or_x hb]
  exact ⟨cnt_x a (by omega) pr (by omega) hb, xor_lo ha hp⟩
theorem or_cm (a b c : Nat) : a ||| b ||| c = a ||| c ||| b := by rw [Nat.or_assoc, Nat.or_comm b, ← Nat.or_assoc]
theorem exch {v : ov} {n : Nat} (h6 : n ≤ 6) : ∀ j pr l, cnt pr + (j + 1) = n → pr < 2 ^ n → cfB v n pr l = true → l < n → fcN v n (j + 1) pr ≠ 0 → fcN v n j (pr ||| 2 ^ l) ≠ 0 := by
  intro j
  induction j with
  | zero => intro pr l _ _ _ _ _; rw [fc_0]; decide
  | succ j ih =>
    intro pr l hc hp hl hln hf
    rw [fc_s] at hf
    obtain ⟨a, ha, hg⟩ := sN_ne hf
    by_cases hca : cfB v n pr a = true
    · rw [if_pos hca] at hg
      by_cases z : a = l
      · rw [z] at hg; exact hg
      · obtain ⟨c1, c2⟩ := or_cnt h6 hp ha (cf_n hca)
        have h2 := ih (pr ||| 2 ^ a) l (by omega) c2 (cf_mono hl (fun y => z y.symm)) hln hg
        rw [fc_s]
        refine sN_ge ha ?_
        rw [if_pos (cf_mono hca z), or_cm]
        exact h2
    · rw [if_neg hca] at hg; exact absurd rfl hg
theorem cat_no {α : Type} {p : α → Bool} {f : Nat → List α} : ∀ m c, (∀ i, i < m → (f (c + i)).find? p = none) → (catN f m c).find? p = none
  | 0, _, _ => rfl
  | m + 1, c, h => by
    unfold catN
    rw [List.find?_append, show f c = f (c + 0) from rfl, h 0 (by omega), Option.none_or]
    exact cat_no m (c + 1) (fun i hi => by rw [show c + 1 + i = c + (i + 1) by omega]; exact h (i + 1) (by omega))
theorem cat_so {α : Type} {p : α → Bool} {f : Nat → List α} {t : α} : ∀ m c k, k < m → (∀ i, i < k → (f (c + i)).find? p = none) → (f (c + k)).find? p = some t → (catN f m c).find? p = some t
  | 0, _, _, h, _, _ => by omega
  | m + 1, c, k, hk, h, ht => by
    unfold catN
    rw [List.find?_append]
    by_cases z : k = 0
    · subst z
      rw [show f c = f (c + 0) from rfl, ht]; rfl
    · rw [show f c = f (c + 0) from rfl, h 0 (by omega), Option.none_or]
      exact cat_so m (c + 1) (k - 1) (by omega) (fun i hi => by rw [show c + 1 + i = c + (i + 1) by omega]; exact h (i + 1) (by omega)) (by rw [show c + 1 + (k - 1) = c + k by omega]; exact ht)
theorem fn_c {α : Type} {p : α → Bool} {L : List α} : L.find? p = none ↔ L.countP p = 0 := by
  rw [List.find?_eq_none, List.countP_eq_zero]
theorem fi_m {v : ov} {n pr l : Nat} {L : List (List Nat)} (h : cfB v n pr l = true) : (L.map (fun r => l :: r)).find? (okS v n pr) = (L.find? (okS v n (pr ||| 2 ^ l))).map (fun r => l :: r) := by
  rw [List.find?_map]
  congr 2
  funext r
  show (cfB v n pr l && okS v n (pr ||| 2 ^ l) r) = _
  rw [h, Bool.true_and]
theorem fi_L {v : ov} {n : Nat} (h6 : n ≤ 6) : ∀ j pr, cnt pr + j = n → pr < 2 ^ n → (pmN n j pr).find? (okS v n pr) = foL v n j pr := by
  intro j
  induction j with
  | zero => intro pr _ _; rfl
  | succ j ih =>
    intro pr hc hp
    have hno : ∀ l, cfB v n pr l = false → (if pr.testBit l = true then [] else (pmN n j (pr ||| 2 ^ l)).map (fun r => l :: r)).find? (okS v n pr) = none := by
      intro l hl
      by_cases hb : pr.testBit l = true
      · rw [if_pos hb]; rfl
      · rw [if_neg hb, fn_c, ok_c, if_neg (by rw [hl]; decide)]
    unfold foL
    cases h : lf (cfB v n pr) n 0 with
    | none =>
      show (catN _ n 0).find? _ = none
      refine cat_no n 0 (fun i hi => ?_)
      rw [Nat.zero_add]
      exact hno i (lf_none h i (by omega) (by omega))
    | some l =>
      obtain ⟨-, q1, q2, q3⟩ := lf_some h
      have hl : l < n := by omega
      have hb : ¬ pr.testBit l = true := by rw [cf_n q2]; decide
      obtain ⟨c1, c2⟩ := or_cnt h6 hp hl (cf_n q2)
      have h2 := ih (pr ||| 2 ^ l) (by omega) c2
      show (catN _ n 0).find? _ = (foL v n j (pr ||| 2 ^ l)).map (fun r => l :: r)
      cases ht : foL v n j (pr ||| 2 ^ l) with
      | some r =>
        refine cat_so n 0 l hl (fun i hi => ?_) ?_
        · rw [Nat.zero_add]; exact hno i (q3 i (by omega) hi)
        · rw [Nat.zero_add, if_neg hb, fi_m q2, h2, ht]; rfl
      | none =>
        rw [ht] at h2
        have hz : fcN v n j (pr ||| 2 ^ l) = 0 := fn_c.mp h2
        have hz2 : fcN v n (j + 1) pr = 0 := by
          rcases Nat.eq_zero_or_pos (fcN v n (j + 1) pr) with z | z
          · exact z
          · exact absurd hz (exch h6 j pr l (by omega) hp q2 hl (by omega))
        exact fn_c.mpr hz2
/-! one order: what the model asks of it -/
def plN (g : Nat → Nat) (x : Nat) : Nat → Nat
  | 0 => 0
  | k + 1 => if g k = x then k else plN g x k
def lkB (n : Nat) (g : Nat → Nat) (a b : Nat) : Bool := !(decide (a < n) && decide (b < n)) || decide (plN g b n < plN g a n)
def ovB (v : ov) (n : Nat) (g : Nat → Nat) : Bool := allB (fun i => lkB n g (v.2.1 i) (v.2.2 i)) v.1
def pkB (n a b : Nat) : Nat → List Nat → Bool
  | _, [] => true
  | pr, l :: r => !(decide (a = l) && decide (b < n) && !pr.testBit b) && pkB n a b (pr ||| 2 ^ l) r
def dsB : Nat → List Nat → Bool
  | _, [] => true
  | pr, l :: r => !pr.testBit l && dsB (pr ||| 2 ^ l) r
theorem sb_pr {v : ov} {n l pr : Nat} : andn (sbN v n l) pr = 0 ↔ ∀ i, i < v.1 → (!(decide (v.2.1 i = l) && decide (v.2.2 i < n) && !pr.testBit (v.2.2 i))) = true := by
  constructor
  · intro h i hi
    by_cases h1 : v.2.1 i = l ∧ v.2.2 i < n
    · have hs : (sbN v n l).testBit (v.2.2 i) = true := by
        unfold sbN
        rw [oN_tb]
        exact ⟨i, hi, by rw [decide_eq_true h1.1, decide_eq_true h1.2]; rfl, by rw [Nat.testBit_two_pow, decide_eq_true rfl]⟩
      have h2 : (andn (sbN v n l) pr).testBit (v.2.2 i) = false := by rw [h, Nat.zero_testBit]
      rw [andn_tb, hs, Bool.true_and] at h2
      rw [h2, Bool.and_false]; rfl
    · by_cases h3 : v.2.1 i = l
      · rw [decide_eq_false (show ¬ v.2.2 i < n from fun z => h1 ⟨h3, z⟩), Bool.and_false, Bool.false_and]; rfl
      · rw [decide_eq_false h3, Bool.false_and, Bool.false_and]; rfl
  · intro h
    apply Nat.eq_of_testBit_eq
    intro k
    rw [Nat.zero_testBit, andn_tb, Bool.eq_false_iff]
    intro z
    rw [Bool.and_eq_true] at z
    obtain ⟨z1, z2⟩ := z
    unfold sbN at z1
    rw [oN_tb] at z1
    obtain ⟨i, hi, y1, y2⟩ := z1
    rw [Nat.testBit_two_pow, decide_eq_true_eq] at y2
    have := h i hi
    rw [y1, y2, z2] at this
    cases this
theorem ok_i {v : ov} {n : Nat} : ∀ (q : List Nat) (pr : Nat), okS v n pr q = true ↔ dsB pr q = true ∧ ∀ i, i < v.1 → pkB n (v.2.1 i) (v.2.2 i) pr q = true
  | [], _ => ⟨fun _ => ⟨rfl, fun _ _ => rfl⟩, fun _ => rfl⟩
  | l :: r, pr => by
    show (cfB v n pr l && okS v n (pr ||| 2 ^ l) r) = true ↔ (!pr.testBit l && dsB (pr ||| 2 ^ l) r) = true ∧ ∀ i, i < v.1 → (!(decide (v.2.1 i = l) && decide (v.2.2 i < n) && !pr.testBit (v.2.2 i)) && pkB n (v.2.1 i) (v.2.2 i) (pr ||| 2 ^ l) r) = true
    unfold cfB
    rw [Bool.and_eq_true, Bool.and_eq_true, decide_eq_true_eq, sb_pr, ok_i r, Bool.and_eq_true]
    constructor
    · rintro ⟨⟨a1, a2⟩, a3, a4⟩
      exact ⟨⟨a1, a3⟩, fun i hi => by rw [Bool.and_eq_true]; exact ⟨a2 i hi, a4 i hi⟩⟩
    · rintro ⟨⟨a1, a3⟩, a2⟩
      exact ⟨⟨a1, fun i hi => ((Bool.and_eq_true _ _).mp (a2 i hi)).1⟩, a3, fun i hi => ((Bool.and_eq_true _ _).mp (a2 i hi)).2⟩
def gL (q : List Nat) : Nat → Nat := fun i => q.getD i 0
def fin1 (n : Nat) (q : List Nat) : Bool := dsB 0 q && allB (fun i => decide (gL q i < n)) n && allB (fun a => allB (fun b => pkB n a b 0 q == lkB n (gL q) a b) 6) 6
theorem fin_all : ∀ n, n < 7 → (pmN n n 0).all (fin1 n) = true := by decide +kernel
theorem ov_ok {v : ov} {n : Nat} (h6 : n ≤ 6) (ho : ovOk v) {q : List Nat} (hq : q ∈ pmN n n 0) : ovB v n (gL q) = okS v n 0 q := by
  have h := List.all_eq_true.mp (fin_all n (by omega)) q hq
  unfold fin1 at h
  rw [Bool.and_eq_true, Bool.and_eq_true] at h
  obtain ⟨⟨h1, -⟩, h2⟩ := h
  have h3 : ∀ a b, a < 6 → b < 6 → pkB n a b 0 q = lkB n (gL q) a b := fun a b ha hb => by
    have := allB_i.mp (allB_i.mp h2 a ha) b hb
    exact eq_of_beq this
  rw [Bool.eq_iff_iff, ok_i]
  unfold ovB
  rw [allB_i]
  constructor
  · intro z
    exact ⟨h1, fun i hi => by rw [h3 _ _ (ho.2 i hi).1 (ho.2 i hi).2]; exact z i hi⟩
  · rintro ⟨-, z⟩ i hi
    rw [← h3 _ _ (ho.2 i hi).1 (ho.2 i hi).2]; exact z i hi
/-! the next order -/
def kSr (g : Nat → Nat) : Nat → Option Nat
  | 0 => none
  | k + 1 => if g (k + 1) < g k then kSr g k else some k
def iSr (g : Nat → Nat) (k : Nat) : Nat → Nat
  | 0 => 0
  | i + 1 => if g (i + 1) < g k then iSr g k i else i + 1
def swN (g : Nat → Nat) (a b : Nat) : Nat → Nat := fun i => if i = b then g a else if i = a then g b else g i
def rvN : Nat → Nat → Nat → (Nat → Nat) → Nat → Nat
  | 0, _, _, g => g
  | m + 1, a, b, g => if a < b then rvN m (a + 1) (b - 1) (swN g a b) else g
def goF (n : Nat) (g : Nat → Nat) : Option (Nat → Nat) := match kSr g (n - 1) with
  | none => none
  | some k => some (rvN n (k + 1) (n - 1) (swN g k (iSr g k (n - 1))))
def stB (n : Nat) (q r : List Nat) : Bool := match goF n (gL q) with
  | none => false
  | some g => allB (fun i => g i == gL r i) n
def chL (n : Nat) : List (List Nat) → Bool
  | [] => false
  | [q] => (goF n (gL q)).isNone
  | q :: r :: t => stB n q r && chL n (r :: t)
def hdB (n : Nat) (L : List (List Nat)) : Bool := match L with
  | [] => false
  | q :: _ => allB (fun i => gL q i == i) n
theorem ch_all : ∀ n, n < 7 → chL n (pmN n n 0) = true ∧ hdB n (pmN n n 0) = true ∧ (pmN n n 0).length ≤ 720 ∧ (pmN n n 0).all (fun q => q.length == n) = true := by decide +kernel

