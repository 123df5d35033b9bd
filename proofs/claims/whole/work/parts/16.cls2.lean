/-! ===== the class's methods, second half ===== -/
def cN (p : Nat → Bool) : Nat → Nat
  | 0 => 0
  | n + 1 => if p n = true then cN p n + 1 else cN p n
def aN (p : Nat → Bool) (g : Nat → Nat) (z : Nat) : Nat → Nat
  | 0 => z
  | n + 1 => if p n = true then aN p g z n &&& g n else aN p g z n
def f1N (p : Nat → Bool) (v : Nat → Nat) : Nat → Option Nat
  | 0 => none
  | n + 1 => if p n = true then some ((f1N p v n).getD (v n)) else f1N p v n
theorem cN_t {p : Nat → Bool} {n : Nat} (h : p n = true) : cN p n + 1 = cN p (n + 1) := by
  show _ = if p n = true then cN p n + 1 else cN p n
  rw [if_pos h]
theorem cN_f {p : Nat → Bool} {n : Nat} (h : p n = false) : cN p n = cN p (n + 1) := by
  show _ = if p n = true then cN p n + 1 else cN p n
  rw [if_neg (by rw [h]; decide)]
theorem cN_le (p : Nat → Bool) : ∀ n, cN p n ≤ n
  | 0 => Nat.le_refl 0
  | n + 1 => by
    have := cN_le p n
    unfold cN
    split <;> omega
theorem aN_t {p : Nat → Bool} {g : Nat → Nat} {z n : Nat} (h : p n = true) : aN p g z n &&& g n = aN p g z (n + 1) := by
  show _ = if p n = true then aN p g z n &&& g n else aN p g z n
  rw [if_pos h]
theorem aN_f {p : Nat → Bool} {g : Nat → Nat} {z n : Nat} (h : p n = false) : aN p g z n = aN p g z (n + 1) := by
  show _ = if p n = true then aN p g z n &&& g n else aN p g z n
  rw [if_neg (by rw [h]; decide)]
theorem f1N_t {p : Nat → Bool} {v : Nat → Nat} {n : Nat} (h : p n = true) : some ((f1N p v n).getD (v n)) = f1N p v (n + 1) := by
  show _ = if p n = true then some ((f1N p v n).getD (v n)) else f1N p v n
  rw [if_pos h]
theorem f1N_f {p : Nat → Bool} {v : Nat → Nat} {n : Nat} (h : p n = false) : f1N p v n = f1N p v (n + 1) := by
  show _ = if p n = true then some ((f1N p v n).getD (v n)) else f1N p v n
  rw [if_neg (by rw [h]; decide)]
theorem f1N_b {p : Nat → Bool} {v : Nat → Nat} {b : Nat} : ∀ {n x : Nat}, (∀ i, i < n → v i < b) → f1N p v n = some x → x < b
  | 0, x, _, h => by cases h
  | n + 1, x, hv, h => by
    unfold f1N at h
    split at h
    · cases q : f1N p v n with
      | none =>
        rw [q] at h
        cases h
        exact hv n (by omega)
      | some y =>
        rw [q] at h
        cases h
        exact f1N_b (fun i hi => hv i (by omega)) q
    · exact f1N_b (fun i hi => hv i (by omega)) h
theorem oI_9 {o : Option Nat} (h : ∀ l, o = some l → l < 2 ^ 31) : oI o = (-9) ↔ o = none := by
  cases o with
  | none => exact ⟨fun _ => rfl, fun _ => rfl⟩
  | some l =>
    refine ⟨fun z => ?_, fun z => by cases z⟩
    have h1 := h l rfl
    have h2 : (nI l).toInt = (-9 : Int32).toInt := congrArg Int32.toInt z
    rw [nI_toInt h1] at h2
    exact absurd h2 (by rw [show (-9 : Int32).toInt = -9 from rfl]; omega)
/-! answers -/
def fiP (s : cs) (x : Nat) : Bool := decide (shBy s.2.1 x = shN s.2.2.1.1 0)
def a_fits (s : cs) (x : Int32) : Int32 := if inR x 3 = true then toldI x.toNatClampNeg (cN (fiP s) (2 ^ s.2.1.1)) (aN (fiP s) (fun i => i) (2 ^ s.2.1.1 - 1) (2 ^ s.2.1.1)) (andn (2 ^ s.2.1.1 - 1) (oN (fiP s) (fun i => i) (2 ^ s.2.1.1))) else (-2)
def kbN (t : lt) : Nat → Nat
  | 0 => 0
  | k + 1 => if kmB t (k + 1) (kbN t k) = true then k + 1 else kbN t k
theorem kbN_le (t : lt) : ∀ k, kbN t k ≤ k
  | 0 => Nat.le_refl 0
  | k + 1 => by
    have := kbN_le t k
    unfold kbN
    split <;> omega
def a_keeps (s : cs) (x : Int32) : Int32 := if inR x 2 = true then (if x.toNatClampNeg = 0 then nI (roN s.2.1 (kbN s.2.1 (2 ^ s.2.1.1 - 1))) else nI (kbN s.2.1 (2 ^ s.2.1.1 - 1))) else (-2)
/-- the figures of a row, by three -/
def dg (r l : Nat) : Nat := r / 3 ^ l % 3
def twP (s : cs) (r : Nat) : Bool := tgB s.2.1 s.2.2.1 (dg r)
def a_twice (s : cs) (x : Int32) : Int32 := if inR x 3 = true then toldI x.toNatClampNeg (cN (twP s) (3 ^ s.2.1.1)) (aN (twP s) (fun r => bN (fun l => decide (dg r l = 2)) 6) (2 ^ s.2.1.1 - 1) (3 ^ s.2.1.1)) (aN (twP s) (fun r => bN (fun l => decide (dg r l = 0)) 6) (2 ^ s.2.1.1 - 1) (3 ^ s.2.1.1)) else (-2)
def crI (t : lt) (i : Nat) : Nat → Nat → Nat × Option Nat → Nat × Option Nat
  | 0, _, st => st
  | k + 1, j, st => crI t i k (j + 1) (match thN t i j with
    | none => st
    | some x => (st.1 + 1, some (st.2.getD (100 * i + 10 * j + x))))
def crO (t : lt) : Nat → Nat → Nat × Option Nat → Nat × Option Nat
  | 0, _, st => st
  | k + 1, i, st => crO t k (i + 1) (crI t i (t.1 - (i + 1)) (i + 1) st)
def a_crossed (s : cs) (x : Int32) : Int32 := if inR x 2 = true then (if x.toNatClampNeg = 0 then nI (crO s.2.1 s.2.1.1 0 (0, none)).1 else oI (crO s.2.1 s.2.1.1 0 (0, none)).2) else (-2)
def enB (t : lt) (ms k : Nat) : Bool := decide (andn ms (shBy t k) = 0)
def lsN (t : lt) (ms : Nat) : Nat → Option Nat
  | 0 => none
  | k + 1 => if enB t ms k = true ∧ (∀ b, lsN t ms k = some b → cnt k < cnt b) then some k else lsN t ms k
def a_least (s : cs) (x : Int32) : Int32 := if inR x 4096 = true then oI (lsN s.2.1 (andn x.toNatClampNeg (shN s.2.2.1.1 0)) (2 ^ s.2.1.1)) else (-2)
def shP (t : lt) (x : Nat) : Nat := sN (fun c => if (shBy t (2 ^ x)).testBit c = true ∧ 0 < shwN t c then 60 / shwN t c else 0) 12
def a_share (s : cs) (x : Int32) (u : Bool) : Int32 := if inR x s.2.1.1 = true then nI ((if u = true then shP s.2.1 x.toNatClampNeg else 60) / Nat.gcd (shP s.2.1 x.toNatClampNeg) 60) else (-1)
def a_tell (s : cs) (x y : Int32) : Int32 := if inR x s.2.1.1 = true ∧ inR y s.2.1.1 = true then (if x = y then (-2) else if s.2.2.2.2.2.1.1 < 6 then nI (s.2.2.2.2.2.1.1 + 1) else (-4)) else (-1)
def n_tell (s : cs) (x y : Int32) : cs := if (inR x s.2.1.1 = true ∧ inR y s.2.1.1 = true) ∧ x ≠ y ∧ s.2.2.2.2.2.1.1 < 6 then (s.1, s.2.1, s.2.2.1, s.2.2.2.1, s.2.2.2.2.1, ovAdd s.2.2.2.2.2.1 x.toNatClampNeg y.toNatClampNeg, s.2.2.2.2.2.2) else s
def n_untell (s : cs) : cs := (s.1, s.2.1, s.2.2.1, s.2.2.2.1, s.2.2.2.2.1, (0, s.2.2.2.2.2.1.2), s.2.2.2.2.2.2)
def a_orders (s : cs) (x : Int32) : Int32 := if inR x 2 = true then (if x.toNatClampNeg = 0 then nI (hmN s.2.2.2.2.2.1 s.2.1.1) else oI (foN s.2.2.2.2.2.1 s.2.1.1 s.2.1.1 0 0)) else (-2)
def a_rests (s : cs) (x y : Int32) : Int32 := if inR x s.2.1.1 = true then (if inR y 2 = true then (if y.toNatClampNeg = 0 then nI (cN (fun k => arB (s.2.1.2.2.1 x.toNatClampNeg) (k / 4) (k % 4)) 16) else oI (f1N (fun k => arB (s.2.1.2.2.1 x.toNatClampNeg) (k / 4) (k % 4)) (fun k => 10 * (k / 4) + k % 4) 16)) else (-2)) else (-1)
def chF (t : lt) (sh l x : Nat) : Nat × Nat := if andn (t.2.2.2.2 l) (sh &&& 15 * 2 ^ t.2.1 l) = 0 then ((10 - x) ^ cnt (t.2.2.2.2 l) * x ^ cnt (andn (sh &&& 15 * 2 ^ t.2.1 l) (t.2.2.2.2 l)), 10 ^ (cnt (t.2.2.2.2 l) + cnt (andn (sh &&& 15 * 2 ^ t.2.1 l) (t.2.2.2.2 l)))) else (0, 1)
def frQ (q : Nat × Nat) (u : Bool) : Nat := (if u = true then q.1 else q.2) / Nat.gcd q.1 q.2
def a_chance (s : cs) (x y : Int32) (u : Bool) : Int32 := if inR x s.2.1.1 = true then (if inR y 11 = true then nI (frQ (chF s.2.1 (shN s.2.2.1.1 0) x.toNatClampNeg y.toNatClampNeg) u) else (-2)) else (-1)
def n_seed (s : cs) (x : Int64) : cs := (s.1, s.2.1, s.2.2.1, s.2.2.2.1, s.2.2.2.2.1, s.2.2.2.2.2.1, x)
def sdN (x : Int64) : Int64 := x * 6364136223846793005 + 1442695040888963407
def lotN (x : Int64) : Nat := x.toBitVec.toNat / 2 ^ 33 % 9
def bfN (t : lt) (k : Nat) (p : pg) : pg := if k < t.1 then pgPress (t.2.2.2.2 k) (t.2.2.2.1 k) k p else if k = 6 ∨ k = 7 then pgDay p else if k = 8 then pgNew p.2.2 else p
def yrN (t : lt) : Nat → pg → Int64 → Nat → Nat × Int64
  | 0, _, sd, acc => (acc, sd)
  | m + 1, p, sd, acc => yrN t m (bfN t (lotN (sdN sd)) p) (sdN sd) (acc + cnt (rdSet t (shN (bfN t (lotN (sdN sd)) p).1 0)))
def a_years (s : cs) (x : Int32) : Int32 := if inR x 31 = true ∧ x.toNatClampNeg ≠ 0 then nI (yrN s.2.1 x.toNatClampNeg s.2.2.1 s.2.2.2.2.2.2 0).1 else (-2)
def n_years (s : cs) (x : Int32) : cs := if inR x 31 = true ∧ x.toNatClampNeg ≠ 0 then (s.1, s.2.1, s.2.2.1, s.2.2.2.1, s.2.2.2.2.1, s.2.2.2.2.2.1, (yrN s.2.1 x.toNatClampNeg s.2.2.1 s.2.2.2.2.2.2 0).2) else s
def a_keep (s : cs) (x : Int32) : Int32 := if inR x 2 = true then s.2.2.1.2.2 else (-1)
def n_keep (s : cs) (x : Int32) : cs := if inR x 2 = true then (s.1, s.2.1, s.2.2.1, s.2.2.2.1, (fun j => if j = x.toNatClampNeg then some s.2.2.1 else s.2.2.2.2.1 j), s.2.2.2.2.2) else s
def a_again (s : cs) (x : Int32) : Int32 := if inR x 2 = true then (match s.2.2.2.2.1 x.toNatClampNeg with
  | none => (-3)
  | some p => p.2.2) else (-1)
def n_again (s : cs) (x : Int32) : cs := if inR x 2 = true then (match s.2.2.2.2.1 x.toNatClampNeg with
  | none => s
  | some p => (s.1, s.2.1, p, [], s.2.2.2.2)) else s
theorem rd_lt {t : lt} (h : ltOk t) (x : Nat) : rdSet t x < 4096 := by
  have h1 := bN_lt (rdN t x) t.1
  have h2 : 2 ^ t.1 ≤ 2 ^ 6 := pw_le h.1
  unfold rdSet
  omega
section CLT
variable {M : mM} {P : Option Value → mM → Prop} {s : cs}
theorem C_fits {x : Int32} (h : kC M s) (ho : cOk s) (hp : P (some (.int (a_fits s x))) M) : Ev 88 7 mX7_fits none 0 [.ref 0, .int x, .null, .null, .null, .null, .null] [] M P := by
  obtain ⟨t, l, p, a, sl, v, sd⟩ := s
  obtain ⟨h0, h1, h2, h3, h11, h4, h5, h6, h7⟩ : kRt M sd ∧ kTx M t ∧ kLt M l ∧ kP M 8 p ∧ (∃ p, kP M 11 p) ∧ kAc M a ∧ kOv M v ∧ kSl M sl ∧ ∃ o, kTm M o := id h
  obtain ⟨o1, o2, o3, o4, o5, o6, o7⟩ : txOk t ∧ ltOk l ∧ pgOk p ∧ (∀ q ∈ a, pgOk q) ∧ a.length ≤ 14 ∧ (∀ i q, sl i = some q → pgOk q) ∧ ovOk v := ho
  have x2 := h2.1
  have hl6 : l.1 ≤ 6 := o2.1
  obtain ⟨f3, g3, x3, hf3, hg3⟩ := id h3
  have x3a := x3.1
  have h64 : 2 ^ l.1 ≤ 2 ^ 6 := pw_le hl6
  have h0p : 0 < 2 ^ l.1 := Nat.two_pow_pos _
  unfold kRt at h0
  unfold a_fits at hp
  have hlt : shN p.1 0 < 4096 := shN_lt _ _
  cases hx : inR x 3 with
  | true =>
    rw [if_pos hx] at hp
    obtain ⟨i, hi, rfl⟩ := inR_of hx (by decide)
    rw [n_cl (by omega)] at hp
    have lp : ∀ (j k m A B : Nat), k + j = 2 ^ l.1 → m = cN (fiP (t, l, p, a, sl, v, sd)) k → A = aN (fiP (t, l, p, a, sl, v, sd)) (fun i => i) (2 ^ l.1 - 1) k → B = oN (fiP (t, l, p, a, sl, v, sd)) (fun i => i) k → Ev 88 7 mX7_fits none 38 [.ref 0, .int (nI i), .int (nI (shN p.1 0)), .int (nI m), .int (nI A), .int (nI B), .int (nI k)] [] M P := by
      intro j
      induction j with
      | zero =>
        intro k m A B hk em eA eB
        obtain rfl : k = 2 ^ l.1 := by omega
        have hm : cN (fiP (t, l, p, a, sl, v, sd)) (2 ^ l.1) ≤ 2 ^ l.1 := cN_le _ _
        subst em eA eB
        refine ev_iload (i := 6) dX7_fits_38 rfl ?_
        refine ev_aload_n (i := 0) dX7_fits_40 rfl rfl ?_
        refine ev_getfield dX7_fits_41 fX7_19 (by first | omega | decide) (by first | assumption | (simp (disch := omega) only [mu_s, mu_n]; first | assumption | rfl)) (by rfl) ?_
        refine ev_V0 (μ1 := mX1_all) dX7_fits_44 sX7_160 okX1_all (by first | omega | decide) (by first | assumption | (simp (disch := omega) only [mu_s, mu_n]; first | assumption | rfl)) (Nat.le_of_ble_eq_true rfl) (Nat.le_of_ble_eq_true rfl) ?_
        refine c_X1_all h2 o2 ?_
        refine ev_icmp_gtN 86 dX7_fits_47 (by decide) (by omega) (by omega) (fun b47 => ?_) (fun b47 => by exfalso; omega)
        refine ev_iload_n (i := 1) dX7_fits_86 rfl rfl ?_
        refine ev_iload_n (i := 3) dX7_fits_87 rfl rfl ?_
        refine ev_iload (i := 4) dX7_fits_88 rfl ?_
        refine ev_aload_n (i := 0) dX7_fits_90 rfl rfl ?_
        refine ev_getfield dX7_fits_91 fX7_19 (by first | omega | decide) (by first | assumption | (simp (disch := omega) only [mu_s, mu_n]; first | assumption | rfl)) (by rfl) ?_
        refine ev_V0 (μ1 := mX1_all) dX7_fits_94 sX7_160 okX1_all (by first | omega | decide) (by first | assumption | (simp (disch := omega) only [mu_s, mu_n]; first | assumption | rfl)) (Nat.le_of_ble_eq_true rfl) (Nat.le_of_ble_eq_true rfl) ?_
        refine c_X1_all h2 o2 ?_
        refine ev_iload (i := 5) dX7_fits_97 rfl ?_
        refine ev_iconst (v := (-1)) dX7_fits_99 rfl ?_
        refine ev_ixor dX7_fits_100 ?_
        refine ev_iand dX7_fits_101 ?_
        refine ev_top (i_op (andn_nI _ _)) ?_
        refine ev_S4 (μ1 := mX7_told) dX7_fits_102 sX7_166 okX7_told (Nat.le_of_ble_eq_true rfl) (Nat.le_of_ble_eq_true rfl) ?_
        refine c_told (by omega) (by omega) ?_
        refine ev_reti dX7_fits_105 rfl rfl ?_
        exact hp
      | succ j ih =>
        intro k m A B hk em eA eB
        have hsl := shBy_lt o2 k
        refine ev_iload (i := 6) dX7_fits_38 rfl ?_
        refine ev_aload_n (i := 0) dX7_fits_40 rfl rfl ?_
        refine ev_getfield dX7_fits_41 fX7_19 (by first | omega | decide) (by first | assumption | (simp (disch := omega) only [mu_s, mu_n]; first | assumption | rfl)) (by rfl) ?_
        refine ev_V0 (μ1 := mX1_all) dX7_fits_44 sX7_160 okX1_all (by first | omega | decide) (by first | assumption | (simp (disch := omega) only [mu_s, mu_n]; first | assumption | rfl)) (Nat.le_of_ble_eq_true rfl) (Nat.le_of_ble_eq_true rfl) ?_
        refine c_X1_all h2 o2 ?_
        refine ev_icmp_gtN 86 dX7_fits_47 (by decide) (by omega) (by omega) (fun b47 => by exfalso; omega) (fun b47 => ?_)
        refine ev_aload_n (i := 0) dX7_fits_50 rfl rfl ?_
        refine ev_getfield dX7_fits_51 fX7_19 (by first | omega | decide) (by first | assumption | (simp (disch := omega) only [mu_s, mu_n]; first | assumption | rfl)) (by rfl) ?_
        refine ev_iload (i := 6) dX7_fits_54 rfl ?_
        refine ev_V1 (μ1 := mX1_shownBy) dX7_fits_56 sX7_163 okX1_shownBy (by first | omega | decide) (by first | assumption | (simp (disch := omega) only [mu_s, mu_n]; first | assumption | rfl)) (Nat.le_of_ble_eq_true rfl) (Nat.le_of_ble_eq_true rfl) ?_
        refine c_X1_shownBy h2 o2 (by omega) ?_
        refine ev_iload_n (i := 2) dX7_fits_59 rfl rfl ?_
        refine ev_icmp_neN 80 dX7_fits_60 (by decide) (by omega) (by omega) (fun b60 => ?_) (fun b60 => ?_)
        · skip
          refine ev_incN dX7_fits_80 (by rfl) (by decide) rfl ?_
          refine ev_goto 38 dX7_fits_83 (by decide) ?_
          first
          | (have q : shBy l k ≠ shN p.1 0 := b60
             have q2 : fiP (t, l, p, a, sl, v, sd) k = false := decide_eq_false q
             exact ih _ _ _ _ (by omega) (em.trans (cN_f q2)) (eA.trans (aN_f q2)) (eB.trans (oN_f (by rw [q2]; decide))))
          | (have q2 : fiP (t, l, p, a, sl, v, sd) k = true := decide_eq_true b60
             exact ih _ _ _ _ (by omega) (by rw [em]; exact cN_t q2) (by rw [eA]; exact aN_t (g := fun i => i) q2) (by rw [eB]; exact oN_t (g := fun i => i) q2))
        · skip
          refine ev_incN dX7_fits_63 (by rfl) (by decide) rfl ?_
          refine ev_iload (i := 4) dX7_fits_66 rfl ?_
          refine ev_iload (i := 6) dX7_fits_68 rfl ?_
          refine ev_iandN dX7_fits_70 ?_
          refine ev_istore (i := 4) dX7_fits_71 (by decide) rfl ?_
          refine ev_iload (i := 5) dX7_fits_73 rfl ?_
          refine ev_iload (i := 6) dX7_fits_75 rfl ?_
          refine ev_iorN dX7_fits_77 ?_
          refine ev_istore (i := 5) dX7_fits_78 (by decide) rfl ?_
          refine ev_incN dX7_fits_80 (by rfl) (by decide) rfl ?_
          refine ev_goto 38 dX7_fits_83 (by decide) ?_
          first
          | (have q : shBy l k ≠ shN p.1 0 := b60
             have q2 : fiP (t, l, p, a, sl, v, sd) k = false := decide_eq_false q
             exact ih _ _ _ _ (by omega) (em.trans (cN_f q2)) (eA.trans (aN_f q2)) (eB.trans (oN_f (by rw [q2]; decide))))
          | (have q2 : fiP (t, l, p, a, sl, v, sd) k = true := decide_eq_true b60
             exact ih _ _ _ _ (by omega) (by rw [em]; exact cN_t q2) (by rw [eA]; exact aN_t (g := fun i => i) q2) (by rw [eB]; exact oN_t (g := fun i => i) q2))
    refine ev_iload_n (i := 1) dX7_fits_0 rfl rfl ?_
    refine ev_if_ltN 9 dX7_fits_1 (by decide) (by omega) (fun b1 => by exfalso; omega) (fun b1 => ?_)
    refine ev_iload_n (i := 1) dX7_fits_4 rfl rfl ?_
    refine ev_iconst (v := nI 2) dX7_fits_5 rfl ?_
    refine ev_icmp_leN 12 dX7_fits_6 (by decide) (by omega) (by omega) (fun b6 => ?_) (fun b6 => by exfalso; omega)
    refine ev_aload_n (i := 0) dX7_fits_12 rfl rfl ?_
    refine ev_getfield dX7_fits_13 fX7_26 (by first | omega | decide) (by first | assumption | (simp (disch := omega) only [mu_s, mu_n]; first | assumption | rfl)) (by rfl) ?_
    refine ev_iconst (v := nI 0) dX7_fits_16 rfl ?_
    refine ev_V1 (μ1 := mX3_shownIn) dX7_fits_17 sX7_93 okX3_shownIn (by first | omega | decide) (by first | assumption | (simp (disch := omega) only [mu_s, mu_n]; first | assumption | rfl)) (Nat.le_of_ble_eq_true rfl) (Nat.le_of_ble_eq_true rfl) ?_
    refine q_shownIn (by omega) h3 o3 (by decide) ?_
    refine ev_istore_n (i := 2) dX7_fits_20 rfl (by decide) rfl ?_
    refine ev_iconst (v := nI 0) dX7_fits_21 rfl ?_
    refine ev_istore_n (i := 3) dX7_fits_22 rfl (by decide) rfl ?_
    refine ev_aload_n (i := 0) dX7_fits_23 rfl rfl ?_
    refine ev_getfield dX7_fits_24 fX7_19 (by first | omega | decide) (by first | assumption | (simp (disch := omega) only [mu_s, mu_n]; first | assumption | rfl)) (by rfl) ?_
    refine ev_V0 (μ1 := mX1_all) dX7_fits_27 sX7_160 okX1_all (by first | omega | decide) (by first | assumption | (simp (disch := omega) only [mu_s, mu_n]; first | assumption | rfl)) (Nat.le_of_ble_eq_true rfl) (Nat.le_of_ble_eq_true rfl) ?_
    refine c_X1_all h2 o2 ?_
    refine ev_istore (i := 4) dX7_fits_30 (by decide) rfl ?_
    refine ev_iconst (v := nI 0) dX7_fits_32 rfl ?_
    refine ev_istore (i := 5) dX7_fits_33 (by decide) rfl ?_
    refine ev_iconst (v := nI 0) dX7_fits_35 rfl ?_
    refine ev_istore (i := 6) dX7_fits_36 (by decide) rfl ?_
    exact lp (2 ^ l.1) 0 0 _ 0 (by omega) rfl rfl rfl
  | false =>
    rw [hx, if_neg (by decide)] at hp
    rcases inR_no hx (by decide) with hx1 | ⟨hx1, hx2⟩
    · skip
      refine ev_iload_n (i := 1) dX7_fits_0 rfl rfl ?_
      refine ev_if_lt 9 dX7_fits_1 (by decide) (fun b1 => ?_) (fun b1 => absurd hx1 b1)
      refine ev_bipush (v := (-2)) dX7_fits_9 rfl ?_
      refine ev_reti dX7_fits_11 rfl rfl ?_
      exact hp
    · have hx3 : ¬ x ≤ nI 2 := Int32.not_le.mpr (nI_lt_of_le hx2 (by decide))
      refine ev_iload_n (i := 1) dX7_fits_0 rfl rfl ?_
      refine ev_if_lt 9 dX7_fits_1 (by decide) (fun b1 => absurd b1 hx1) (fun b1 => ?_)
      refine ev_iload_n (i := 1) dX7_fits_4 rfl rfl ?_
      refine ev_iconst (v := nI 2) dX7_fits_5 rfl ?_
      refine ev_icmp_le 12 dX7_fits_6 (by decide) (fun b6 => absurd b6 hx3) (fun b6 => ?_)
      refine ev_bipush (v := (-2)) dX7_fits_9 rfl ?_
      refine ev_reti dX7_fits_11 rfl rfl ?_
      exact hp
theorem C_keeps {x : Int32} (h : kC M s) (ho : cOk s) (hp : P (some (.int (a_keeps s x))) M) : Ev 88 7 mX7_keeps none 0 [.ref 0, .int x, .null, .null] [] M P := by
  obtain ⟨t, l, p, a, sl, v, sd⟩ := s
  obtain ⟨h0, h1, h2, h3, h11, h4, h5, h6, h7⟩ : kRt M sd ∧ kTx M t ∧ kLt M l ∧ kP M 8 p ∧ (∃ p, kP M 11 p) ∧ kAc M a ∧ kOv M v ∧ kSl M sl ∧ ∃ o, kTm M o := id h
  obtain ⟨o1, o2, o3, o4, o5, o6, o7⟩ : txOk t ∧ ltOk l ∧ pgOk p ∧ (∀ q ∈ a, pgOk q) ∧ a.length ≤ 14 ∧ (∀ i q, sl i = some q → pgOk q) ∧ ovOk v := ho
  have x2 := h2.1
  have hl6 : l.1 ≤ 6 := o2.1
  obtain ⟨f3, g3, x3, hf3, hg3⟩ := id h3
  have x3a := x3.1
  have h64 : 2 ^ l.1 ≤ 2 ^ 6 := pw_le hl6
  have h0p : 0 < 2 ^ l.1 := Nat.two_pow_pos _
  unfold kRt at h0
  unfold a_keeps at hp
  cases hx : inR x 2 with
  | true =>
    rw [if_pos hx] at hp
    obtain ⟨i, hi, rfl⟩ := inR_of hx (by decide)
    rw [n_cl (by omega)] at hp
    have hb : kbN l (2 ^ l.1 - 1) ≤ 2 ^ l.1 - 1 := kbN_le l _
    have hro : roN l (kbN l (2 ^ l.1 - 1)) ≤ 12 := cnt_le _
    have lp : ∀ (j k : Nat), k + 1 + j = 2 ^ l.1 → Ev 88 7 mX7_keeps none 16 [.ref 0, .int (nI i), .int (nI (kbN l k)), .int (nI (k + 1))] [] M P := by
      intro j
      induction j with
      | zero =>
        intro k hk
        obtain rfl : k = 2 ^ l.1 - 1 := by omega
        by_cases hi0 : i = 0
        · rw [if_pos hi0] at hp
          refine ev_iload_n (i := 3) dX7_keeps_16 rfl rfl ?_
          refine ev_aload_n (i := 0) dX7_keeps_17 rfl rfl ?_
          refine ev_getfield dX7_keeps_18 fX7_19 (by first | omega | decide) (by first | assumption | (simp (disch := omega) only [mu_s, mu_n]; first | assumption | rfl)) (by rfl) ?_
          refine ev_V0 (μ1 := mX1_all) dX7_keeps_21 sX7_160 okX1_all (by first | omega | decide) (by first | assumption | (simp (disch := omega) only [mu_s, mu_n]; first | assumption | rfl)) (Nat.le_of_ble_eq_true rfl) (Nat.le_of_ble_eq_true rfl) ?_
          refine c_X1_all h2 o2 ?_
          refine ev_icmp_gtN 44 dX7_keeps_24 (by decide) (by omega) (by omega) (fun b24 => ?_) (fun b24 => by exfalso; omega)
          refine ev_iload_n (i := 1) dX7_keeps_44 rfl rfl ?_
          refine ev_if_neN 56 dX7_keeps_45 (by decide) (by omega) (fun b45 => by exfalso; omega) (fun b45 => ?_)
          refine ev_aload_n (i := 0) dX7_keeps_48 rfl rfl ?_
          refine ev_iload_n (i := 2) dX7_keeps_49 rfl rfl ?_
          refine ev_V1 (μ1 := mX7_readOf) dX7_keeps_50 sX7_173 okX7_readOf (by first | omega | decide) (by first | assumption | (simp (disch := omega) only [mu_s, mu_n]; first | assumption | rfl)) (Nat.le_of_ble_eq_true rfl) (Nat.le_of_ble_eq_true rfl) ?_
          refine c_readOf h0 h2 o2 (by omega) ?_
          refine ev_goto 57 dX7_keeps_53 (by decide) ?_
          refine ev_reti dX7_keeps_57 rfl rfl ?_
          exact hp
        · rw [if_neg hi0] at hp
          refine ev_iload_n (i := 3) dX7_keeps_16 rfl rfl ?_
          refine ev_aload_n (i := 0) dX7_keeps_17 rfl rfl ?_
          refine ev_getfield dX7_keeps_18 fX7_19 (by first | omega | decide) (by first | assumption | (simp (disch := omega) only [mu_s, mu_n]; first | assumption | rfl)) (by rfl) ?_
          refine ev_V0 (μ1 := mX1_all) dX7_keeps_21 sX7_160 okX1_all (by first | omega | decide) (by first | assumption | (simp (disch := omega) only [mu_s, mu_n]; first | assumption | rfl)) (Nat.le_of_ble_eq_true rfl) (Nat.le_of_ble_eq_true rfl) ?_
          refine c_X1_all h2 o2 ?_
          refine ev_icmp_gtN 44 dX7_keeps_24 (by decide) (by omega) (by omega) (fun b24 => ?_) (fun b24 => by exfalso; omega)
          refine ev_iload_n (i := 1) dX7_keeps_44 rfl rfl ?_
          refine ev_if_neN 56 dX7_keeps_45 (by decide) (by omega) (fun b45 => ?_) (fun b45 => by exfalso; omega)
          refine ev_iload_n (i := 2) dX7_keeps_56 rfl rfl ?_
          refine ev_reti dX7_keeps_57 rfl rfl ?_
          exact hp
      | succ j ih =>
        intro k hk
        have hb1 := kbN_le l k
        refine ev_iload_n (i := 3) dX7_keeps_16 rfl rfl ?_
        refine ev_aload_n (i := 0) dX7_keeps_17 rfl rfl ?_
        refine ev_getfield dX7_keeps_18 fX7_19 (by first | omega | decide) (by first | assumption | (simp (disch := omega) only [mu_s, mu_n]; first | assumption | rfl)) (by rfl) ?_
        refine ev_V0 (μ1 := mX1_all) dX7_keeps_21 sX7_160 okX1_all (by first | omega | decide) (by first | assumption | (simp (disch := omega) only [mu_s, mu_n]; first | assumption | rfl)) (Nat.le_of_ble_eq_true rfl) (Nat.le_of_ble_eq_true rfl) ?_
        refine c_X1_all h2 o2 ?_
        refine ev_icmp_gtN 44 dX7_keeps_24 (by decide) (by omega) (by omega) (fun b24 => by exfalso; omega) (fun b24 => ?_)
        refine ev_aload_n (i := 0) dX7_keeps_27 rfl rfl ?_
        refine ev_iload_n (i := 3) dX7_keeps_28 rfl rfl ?_
        refine ev_iload_n (i := 2) dX7_keeps_29 rfl rfl ?_
        refine ev_V2 (μ1 := mX7_keepsMore) dX7_keeps_30 sX7_170 okX7_keepsMore (by first | omega | decide) (by first | assumption | (simp (disch := omega) only [mu_s, mu_n]; first | assumption | rfl)) (Nat.le_of_ble_eq_true rfl) (Nat.le_of_ble_eq_true rfl) ?_
        refine c_keepsMore h0 h2 o2 (by omega) (by omega) ?_
        refine ev_if_eqB 38 dX7_keeps_33 (by decide) (fun b33 => ?_) (fun b33 => ?_)
        · skip
          refine ev_incN dX7_keeps_38 (by rfl) (by decide) rfl ?_
          refine ev_goto 16 dX7_keeps_41 (by decide) ?_
          first
          | (have q : kmB l (k + 1) (kbN l k) = false := b33
             have e : kbN l (k + 1) = kbN l k := by show (if _ then _ else _) = _; rw [if_neg (by rw [q]; decide)]
             rw [← e]; exact ih (k + 1) (by omega))
          | (have q : kmB l (k + 1) (kbN l k) = true := b33
             have e : kbN l (k + 1) = k + 1 := by show (if _ then _ else _) = _; rw [if_pos q]
             have z := ih (k + 1) (by omega)
             rw [e] at z; exact z)
        · skip
          refine ev_iload_n (i := 3) dX7_keeps_36 rfl rfl ?_
          refine ev_istore_n (i := 2) dX7_keeps_37 rfl (by decide) rfl ?_
          refine ev_incN dX7_keeps_38 (by rfl) (by decide) rfl ?_
          refine ev_goto 16 dX7_keeps_41 (by decide) ?_
          first
          | (have q : kmB l (k + 1) (kbN l k) = false := b33
             have e : kbN l (k + 1) = kbN l k := by show (if _ then _ else _) = _; rw [if_neg (by rw [q]; decide)]
             rw [← e]; exact ih (k + 1) (by omega))
          | (have q : kmB l (k + 1) (kbN l k) = true := b33
             have e : kbN l (k + 1) = k + 1 := by show (if _ then _ else _) = _; rw [if_pos q]
             have z := ih (k + 1) (by omega)
             rw [e] at z; exact z)
    refine ev_iload_n (i := 1) dX7_keeps_0 rfl rfl ?_
    refine ev_if_ltN 9 dX7_keeps_1 (by decide) (by omega) (fun b1 => by exfalso; omega) (fun b1 => ?_)
    refine ev_iload_n (i := 1) dX7_keeps_4 rfl rfl ?_
    refine ev_iconst (v := nI 1) dX7_keeps_5 rfl ?_
    refine ev_icmp_leN 12 dX7_keeps_6 (by decide) (by omega) (by omega) (fun b6 => ?_) (fun b6 => by exfalso; omega)
    refine ev_iconst (v := nI 0) dX7_keeps_12 rfl ?_
    refine ev_istore_n (i := 2) dX7_keeps_13 rfl (by decide) rfl ?_
    refine ev_iconst (v := nI 1) dX7_keeps_14 rfl ?_
    refine ev_istore_n (i := 3) dX7_keeps_15 rfl (by decide) rfl ?_
    exact lp (2 ^ l.1 - 1) 0 (by omega)
  | false =>
    rw [hx, if_neg (by decide)] at hp
    rcases inR_no hx (by decide) with hx1 | ⟨hx1, hx2⟩
    · skip
      refine ev_iload_n (i := 1) dX7_keeps_0 rfl rfl ?_
      refine ev_if_lt 9 dX7_keeps_1 (by decide) (fun b1 => ?_) (fun b1 => absurd hx1 b1)
      refine ev_bipush (v := (-2)) dX7_keeps_9 rfl ?_
      refine ev_reti dX7_keeps_11 rfl rfl ?_
      exact hp
    · have hx3 : ¬ x ≤ nI 1 := Int32.not_le.mpr (nI_lt_of_le hx2 (by decide))
      refine ev_iload_n (i := 1) dX7_keeps_0 rfl rfl ?_
      refine ev_if_lt 9 dX7_keeps_1 (by decide) (fun b1 => absurd b1 hx1) (fun b1 => ?_)
      refine ev_iload_n (i := 1) dX7_keeps_4 rfl rfl ?_
      refine ev_iconst (v := nI 1) dX7_keeps_5 rfl ?_
      refine ev_icmp_le 12 dX7_keeps_6 (by decide) (fun b6 => absurd b6 hx3) (fun b6 => ?_)
      refine ev_bipush (v := (-2)) dX7_keeps_9 rfl ?_
      refine ev_reti dX7_keeps_11 rfl rfl ?_
      exact hp
theorem kTm_cg {M : mM} {o o1 : Nat → Nat} (h : kTm M o) (e : ∀ l, l < 6 → o l = o1 l) : kTm M o1 := by
  obtain ⟨h1, f, h2, h3⟩ := h
  exact ⟨h1, f, h2, fun j hj => by rw [h3 j hj, e j hj]⟩
def nxI (r : Nat) : Nat := (lf (fun l => decide (dg r l ≠ 2)) 6 0).getD 6
theorem nx_all : ((List.range 729).all fun r => (List.range 6).all fun l => decide (nxT (dg r) (nxI r) l = dg (r + 1) l)) = true := by decide +kernel
theorem nx_dg {r : Nat} (hr : r < 729) : ∀ l, l < 6 → nxT (dg r) (nxI r) l = dg (r + 1) l := fun l hl => by
  have h1 := List.all_eq_true.mp nx_all r (List.mem_range.mpr hr)
  have h2 := List.all_eq_true.mp h1 l (List.mem_range.mpr hl)
  exact of_decide_eq_true h2
theorem nxI_ok (r : Nat) : nxI r ≤ 6 ∧ (∀ l, l < nxI r → dg r l = 2) ∧ (nxI r < 6 → dg r (nxI r) ≠ 2) := by
  unfold nxI
  cases q : lf (fun l => decide (dg r l ≠ 2)) 6 0 with
  | none =>
    have h := lf_none q
    exact ⟨Nat.le_refl 6, fun l hl => by have hl : l < 6 := hl; have := h l (by omega) (by omega); simpa using this, fun z => absurd z (by simp)⟩
  | some x =>
    obtain ⟨h1, h2, h3, h4⟩ := lf_some q
    refine ⟨by show x ≤ 6; omega, fun l hl => ?_, fun _ => ?_⟩
    · have := h4 l (by omega) hl; simpa using this
    · simpa using h3
theorem dg_le (r l : Nat) : dg r l ≤ 2 := by unfold dg; omega
theorem C_twice {x : Int32} (h : kC M s) (ho : cOk s) (hp : ∀ M1, ag M M1 0 72 → kC M1 s → P (some (.int (a_twice s x))) M1) : Ev 88 7 mX7_twice none 0 [.ref 0, .int x, .null, .null, .null, .null] [] M P := by
  obtain ⟨t, l, p, a, sl, v, sd⟩ := s
  obtain ⟨h0, h1, h2, h3, h11, h4, h5, h6, h7⟩ : kRt M sd ∧ kTx M t ∧ kLt M l ∧ kP M 8 p ∧ (∃ p, kP M 11 p) ∧ kAc M a ∧ kOv M v ∧ kSl M sl ∧ ∃ o, kTm M o := id h
  obtain ⟨o1, o2, o3, o4, o5, o6, o7⟩ : txOk t ∧ ltOk l ∧ pgOk p ∧ (∀ q ∈ a, pgOk q) ∧ a.length ≤ 14 ∧ (∀ i q, sl i = some q → pgOk q) ∧ ovOk v := ho
  have x2 := h2.1
  have hl6 : l.1 ≤ 6 := o2.1
  obtain ⟨f3, g3, x3, hf3, hg3⟩ := id h3
  have x3a := x3.1
  have h64 : 2 ^ l.1 ≤ 2 ^ 6 := pw_le hl6
  have h0p : 0 < 2 ^ l.1 := Nat.two_pow_pos _
  unfold kRt at h0
  obtain ⟨o0, h7⟩ := h7
  have x7 := h7.1
  have h729 : 3 ^ l.1 ≤ 3 ^ 6 := Nat.pow_le_pow_right (by decide) hl6
  unfold a_twice at hp
  cases hx : inR x 3 with
  | true =>
    rw [if_pos hx] at hp
    obtain ⟨i, hi, rfl⟩ := inR_of hx (by decide)
    rw [n_cl (by omega)] at hp
    have lp : ∀ (j r m A B : Nat) (M1 : mM), r + j = 3 ^ l.1 → ag M M1 70 72 → kTm M1 (dg r) → m = cN (twP (t, l, p, a, sl, v, sd)) r → A = aN (twP (t, l, p, a, sl, v, sd)) (fun r => bN (fun l => decide (dg r l = 2)) 6) (2 ^ l.1 - 1) r → B = aN (twP (t, l, p, a, sl, v, sd)) (fun r => bN (fun l => decide (dg r l = 0)) 6) (2 ^ l.1 - 1) r → Ev 88 7 mX7_twice none 51 [.ref 0, .int (nI i), .int (nI m), .int (nI A), .int (nI B), .int (nI j)] [] M1 P := by
      intro j
      induction j with
      | zero =>
        intro r m A B M1 hr ha hT em eA eB
        obtain rfl : r = 3 ^ l.1 := by omega
        have hm : cN (twP (t, l, p, a, sl, v, sd)) (3 ^ l.1) ≤ 3 ^ l.1 := cN_le _ _
        subst em eA eB
        refine ev_iload (i := 5) dX7_twice_51 rfl ?_
        refine ev_if_leN 103 dX7_twice_53 (by decide) (by omega) (fun b53 => ?_) (fun b53 => by exfalso; omega)
        refine ev_iload_n (i := 1) dX7_twice_103 rfl rfl ?_
        refine ev_iload_n (i := 2) dX7_twice_104 rfl rfl ?_
        refine ev_iload_n (i := 3) dX7_twice_105 rfl rfl ?_
        refine ev_iload (i := 4) dX7_twice_106 rfl ?_
        refine ev_S4 (μ1 := mX7_told) dX7_twice_108 sX7_166 okX7_told (Nat.le_of_ble_eq_true rfl) (Nat.le_of_ble_eq_true rfl) ?_
        refine c_told (by omega) (by omega) ?_
        refine ev_reti dX7_twice_111 rfl rfl ?_
        exact hp M1 (ag_wd ha) (kC_tm h ha hT)
      | succ j ih =>
        intro r m A B M1 hr ha hT em eA eB
        have y0 := (ha 0 (by omega)).trans h0
        have y7 := hT.1
        obtain ⟨n1, n2, n3⟩ := nxI_ok r
        refine ev_iload (i := 5) dX7_twice_51 rfl ?_
        refine ev_if_leN 103 dX7_twice_53 (by decide) (by omega) (fun b53 => by exfalso; omega) (fun b53 => ?_)
        refine ev_aload_n (i := 0) dX7_twice_56 rfl rfl ?_
        refine ev_V0 (μ1 := mX7_timesGiveTheInk) dX7_twice_57 sX7_183 okX7_timesGiveTheInk (by first | omega | decide) (by first | assumption | (simp (disch := omega) only [mu_s, mu_n]; first | assumption | rfl)) (Nat.le_of_ble_eq_true rfl) (Nat.le_of_ble_eq_true rfl) ?_
        refine c_timesGiveTheInk y0 (kLt_ag h2 ha (by omega)) o2 hT (fun l _ => dg_le r l) (kP_ag h3 ha (by omega)) o3 ?_
        refine ev_if_eqB 90 dX7_twice_60 (by decide) (fun b60 => ?_) (fun b60 => ?_)
        · skip
          refine ev_aload_n (i := 0) dX7_twice_90 rfl rfl ?_
          refine ev_getfield dX7_twice_91 fX7_57 (by first | omega | decide) (by first | assumption | (simp (disch := omega) only [mu_s, mu_n]; first | assumption | rfl)) (by rfl) ?_
          refine ev_V0 (μ1 := mX6_next) dX7_twice_94 sX7_190 okX6_next (by first | omega | decide) (by first | assumption | (simp (disch := omega) only [mu_s, mu_n]; first | assumption | rfl)) (Nat.le_of_ble_eq_true rfl) (Nat.le_of_ble_eq_true rfl) ?_
          refine q_next hT (fun l _ => dg_le r l) n1 n2 n3 (fun M2 ha2 hT2 => ?_)
          refine ev_decN dX7_twice_97 (by rfl) (by decide) rfl ?_
          refine ev_goto 51 dX7_twice_100 (by decide) ?_
          first
          | (have q2 : twP (t, l, p, a, sl, v, sd) r = false := b60
             exact ih _ _ _ _ M2 (by omega) (ag_tr ha ha2) (kTm_cg hT2 (nx_dg (by omega))) (em.trans (cN_f q2)) (eA.trans (aN_f q2)) (eB.trans (aN_f q2)))
          | (have q2 : twP (t, l, p, a, sl, v, sd) r = true := b60
             exact ih _ _ _ _ M2 (by omega) (ag_tr ha ha2) (kTm_cg hT2 (nx_dg (by omega))) (by rw [em]; exact cN_t q2) (by rw [eA]; exact aN_t (g := fun r => bN (fun l => decide (dg r l = 2)) 6) q2) (by rw [eB]; exact aN_t (g := fun r => bN (fun l => decide (dg r l = 0)) 6) q2))
        · skip
          refine ev_incN dX7_twice_63 (by rfl) (by decide) rfl ?_
          refine ev_iload_n (i := 3) dX7_twice_66 rfl rfl ?_
          refine ev_aload_n (i := 0) dX7_twice_67 rfl rfl ?_
          refine ev_getfield dX7_twice_68 fX7_57 (by first | omega | decide) (by first | assumption | (simp (disch := omega) only [mu_s, mu_n]; first | assumption | rfl)) (by rfl) ?_
          refine ev_iconst (v := nI 2) dX7_twice_71 rfl ?_
          refine ev_V1 (μ1 := mX6_lettersThere) dX7_twice_72 sX7_187 okX6_lettersThere (by first | omega | decide) (by first | assumption | (simp (disch := omega) only [mu_s, mu_n]; first | assumption | rfl)) (Nat.le_of_ble_eq_true rfl) (Nat.le_of_ble_eq_true rfl) ?_
          refine q_lettersThere hT (fun l _ => dg_le r l) (by decide) ?_
          refine ev_iandN dX7_twice_75 ?_
          refine ev_istore_n (i := 3) dX7_twice_76 rfl (by decide) rfl ?_
          refine ev_iload (i := 4) dX7_twice_77 rfl ?_
          refine ev_aload_n (i := 0) dX7_twice_79 rfl rfl ?_
          refine ev_getfield dX7_twice_80 fX7_57 (by first | omega | decide) (by first | assumption | (simp (disch := omega) only [mu_s, mu_n]; first | assumption | rfl)) (by rfl) ?_
          refine ev_iconst (v := nI 0) dX7_twice_83 rfl ?_
          refine ev_V1 (μ1 := mX6_lettersThere) dX7_twice_84 sX7_187 okX6_lettersThere (by first | omega | decide) (by first | assumption | (simp (disch := omega) only [mu_s, mu_n]; first | assumption | rfl)) (Nat.le_of_ble_eq_true rfl) (Nat.le_of_ble_eq_true rfl) ?_
          refine q_lettersThere hT (fun l _ => dg_le r l) (by decide) ?_
          refine ev_iandN dX7_twice_87 ?_
          refine ev_istore (i := 4) dX7_twice_88 (by decide) rfl ?_
          refine ev_aload_n (i := 0) dX7_twice_90 rfl rfl ?_
          refine ev_getfield dX7_twice_91 fX7_57 (by first | omega | decide) (by first | assumption | (simp (disch := omega) only [mu_s, mu_n]; first | assumption | rfl)) (by rfl) ?_
          refine ev_V0 (μ1 := mX6_next) dX7_twice_94 sX7_190 okX6_next (by first | omega | decide) (by first | assumption | (simp (disch := omega) only [mu_s, mu_n]; first | assumption | rfl)) (Nat.le_of_ble_eq_true rfl) (Nat.le_of_ble_eq_true rfl) ?_
          refine q_next hT (fun l _ => dg_le r l) n1 n2 n3 (fun M2 ha2 hT2 => ?_)
          refine ev_decN dX7_twice_97 (by rfl) (by decide) rfl ?_
          refine ev_goto 51 dX7_twice_100 (by decide) ?_
          first
          | (have q2 : twP (t, l, p, a, sl, v, sd) r = false := b60
             exact ih _ _ _ _ M2 (by omega) (ag_tr ha ha2) (kTm_cg hT2 (nx_dg (by omega))) (em.trans (cN_f q2)) (eA.trans (aN_f q2)) (eB.trans (aN_f q2)))
          | (have q2 : twP (t, l, p, a, sl, v, sd) r = true := b60
             exact ih _ _ _ _ M2 (by omega) (ag_tr ha ha2) (kTm_cg hT2 (nx_dg (by omega))) (by rw [em]; exact cN_t q2) (by rw [eA]; exact aN_t (g := fun r => bN (fun l => decide (dg r l = 2)) 6) q2) (by rw [eB]; exact aN_t (g := fun r => bN (fun l => decide (dg r l = 0)) 6) q2))
    refine ev_iload_n (i := 1) dX7_twice_0 rfl rfl ?_
    refine ev_if_ltN 9 dX7_twice_1 (by decide) (by omega) (fun b1 => by exfalso; omega) (fun b1 => ?_)
    refine ev_iload_n (i := 1) dX7_twice_4 rfl rfl ?_
    refine ev_iconst (v := nI 2) dX7_twice_5 rfl ?_
    refine ev_icmp_leN 12 dX7_twice_6 (by decide) (by omega) (by omega) (fun b6 => ?_) (fun b6 => by exfalso; omega)
    refine ev_iconst (v := nI 0) dX7_twice_12 rfl ?_
    refine ev_istore_n (i := 2) dX7_twice_13 rfl (by decide) rfl ?_
    refine ev_aload_n (i := 0) dX7_twice_14 rfl rfl ?_
    refine ev_getfield dX7_twice_15 fX7_19 (by first | omega | decide) (by first | assumption | (simp (disch := omega) only [mu_s, mu_n]; first | assumption | rfl)) (by rfl) ?_
    refine ev_V0 (μ1 := mX1_all) dX7_twice_18 sX7_160 okX1_all (by first | omega | decide) (by first | assumption | (simp (disch := omega) only [mu_s, mu_n]; first | assumption | rfl)) (Nat.le_of_ble_eq_true rfl) (Nat.le_of_ble_eq_true rfl) ?_
    refine c_X1_all h2 o2 ?_
    refine ev_istore_n (i := 3) dX7_twice_21 rfl (by decide) rfl ?_
    refine ev_aload_n (i := 0) dX7_twice_22 rfl rfl ?_
    refine ev_getfield dX7_twice_23 fX7_19 (by first | omega | decide) (by first | assumption | (simp (disch := omega) only [mu_s, mu_n]; first | assumption | rfl)) (by rfl) ?_
    refine ev_V0 (μ1 := mX1_all) dX7_twice_26 sX7_160 okX1_all (by first | omega | decide) (by first | assumption | (simp (disch := omega) only [mu_s, mu_n]; first | assumption | rfl)) (Nat.le_of_ble_eq_true rfl) (Nat.le_of_ble_eq_true rfl) ?_
    refine c_X1_all h2 o2 ?_
    refine ev_istore (i := 4) dX7_twice_29 (by decide) rfl ?_
    refine ev_aload_n (i := 0) dX7_twice_31 rfl rfl ?_
    refine ev_getfield dX7_twice_32 fX7_57 (by first | omega | decide) (by first | assumption | (simp (disch := omega) only [mu_s, mu_n]; first | assumption | rfl)) (by rfl) ?_
    refine ev_V0 (μ1 := mX6_start) dX7_twice_35 sX7_176 okX6_start (by first | omega | decide) (by first | assumption | (simp (disch := omega) only [mu_s, mu_n]; first | assumption | rfl)) (Nat.le_of_ble_eq_true rfl) (Nat.le_of_ble_eq_true rfl) ?_
    refine q_start h7 (fun M1 ha hT => ?_)
    have y0 := (ha 0 (by omega)).trans h0
    have y2 := (ha 3 (by omega)).trans x2
    refine ev_iconst (v := nI 3) dX7_twice_38 rfl ?_
    refine ev_aload_n (i := 0) dX7_twice_39 rfl rfl ?_
    refine ev_getfield dX7_twice_40 fX7_19 (by first | omega | decide) (by first | assumption | (simp (disch := omega) only [mu_s, mu_n]; first | assumption | rfl)) (by rfl) ?_
    refine ev_getfield dX7_twice_43 fX7_90 (by first | omega | decide) (by first | assumption | (simp (disch := omega) only [mu_s, mu_n]; first | assumption | rfl)) (by rfl) ?_
    refine ev_S2 (μ1 := mX7_power) dX7_twice_46 sX7_179 okX7_power (Nat.le_of_ble_eq_true rfl) (Nat.le_of_ble_eq_true rfl) ?_
    refine c_power (by omega) ?_
    refine ev_istore (i := 5) dX7_twice_49 (by decide) rfl ?_
    exact lp (3 ^ l.1) 0 0 _ _ M1 (by omega) (ag_wd ha) (kTm_cg hT (fun l _ => by unfold dg; rw [Nat.zero_div])) rfl rfl rfl
  | false =>
    rw [hx, if_neg (by decide)] at hp
    rcases inR_no hx (by decide) with hx1 | ⟨hx1, hx2⟩
    · skip
      refine ev_iload_n (i := 1) dX7_twice_0 rfl rfl ?_
      refine ev_if_lt 9 dX7_twice_1 (by decide) (fun b1 => ?_) (fun b1 => absurd hx1 b1)
      refine ev_bipush (v := (-2)) dX7_twice_9 rfl ?_
      refine ev_reti dX7_twice_11 rfl rfl ?_
      exact hp M (ag_rf M _ _) h
    · have hx3 : ¬ x ≤ nI 2 := Int32.not_le.mpr (nI_lt_of_le hx2 (by decide))
      refine ev_iload_n (i := 1) dX7_twice_0 rfl rfl ?_
      refine ev_if_lt 9 dX7_twice_1 (by decide) (fun b1 => absurd b1 hx1) (fun b1 => ?_)
      refine ev_iload_n (i := 1) dX7_twice_4 rfl rfl ?_
      refine ev_iconst (v := nI 2) dX7_twice_5 rfl ?_
      refine ev_icmp_le 12 dX7_twice_6 (by decide) (fun b6 => absurd b6 hx3) (fun b6 => ?_)
      refine ev_bipush (v := (-2)) dX7_twice_9 rfl ?_
      refine ev_reti dX7_twice_11 rfl rfl ?_
      exact hp M (ag_rf M _ _) h
end CLT
