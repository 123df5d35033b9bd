theorem ch_c4 : ∀ pl, pl < 9 → ∀ m, m < 16 → ∀ z, z < 16 → cnt (m * 2 ^ pl) + cnt (andn (z * 2 ^ pl) (m * 2 ^ pl)) ≤ 4 := by decide +kernel
theorem ch_hc {l : lt} (ho : ltOk l) : ∀ k, k < l.1 → cnt (l.2.2.2.2 k) ≤ 4 ∧ ∀ z, cnt (l.2.2.2.2 k) + cnt (andn (z &&& 15 * 2 ^ l.2.1 k) (l.2.2.2.2 k)) ≤ 4 := by
  intro k hk
  obtain ⟨h1, -, -, m, h2, h3, h4⟩ := ho.2 k hk
  rw [h4]
  have := fun z => ch_c4 (l.2.1 k) (by omega) m h3 (z / 2 ^ l.2.1 k % 16) (by omega)
  refine ⟨?_, fun z => by rw [sh_win]; exact this z⟩
  have h0 := this 0
  omega
theorem ch_an {m pl sh : Nat} (hm : m < 16) : andn (m * 2 ^ pl) sh = andn (m * 2 ^ pl) (sh &&& 15 * 2 ^ pl) := by
  apply Nat.eq_of_testBit_eq
  intro i
  rw [andn_tb, andn_tb, Nat.testBit_and, Nat.testBit_mul_two_pow, Nat.testBit_mul_two_pow, show (15 : Nat) = 2 ^ 4 - 1 from rfl, Nat.testBit_two_pow_sub_one]
  by_cases h : pl ≤ i
  · by_cases h4 : i - pl < 4
    · simp [h, h4]
    · have hb : m.testBit (i - pl) = false := Nat.testBit_lt_two_pow (Nat.lt_of_lt_of_le hm (show 16 ≤ 2 ^ (i - pl) from pw_le (a := 4) (by omega)))
      simp [hb]
  · simp [h]
theorem sh_tb {sh pl k : Nat} (hk : k < 4) : sh.testBit (pl + k) = (sh / 2 ^ pl % 16).testBit k := by
  rw [show (16 : Nat) = 2 ^ 4 from rfl, Nat.testBit_mod_two_pow, Nat.testBit_div_two_pow, decide_eq_true hk, Bool.true_and, Nat.add_comm]
theorem m_tb {m pl k : Nat} : (m * 2 ^ pl).testBit (pl + k) = m.testBit k := by
  rw [Nat.testBit_mul_two_pow, decide_eq_true (Nat.le_add_right pl k), Bool.true_and, Nat.add_sub_cancel_left]
def chA (z m : Nat) : Nat → Nat := sN (fun i => if z.testBit i = true ∧ m.testBit i = true then 1 else 0)
def chB2 (z m : Nat) : Nat → Nat := sN (fun i => if z.testBit i = true ∧ m.testBit i = false then 1 else 0)
theorem ch_1 {z m k : Nat} (h1 : z.testBit k = true) (h2 : m.testBit k = true) : chA z m (k + 1) = chA z m k + 1 ∧ chB2 z m (k + 1) = chB2 z m k := by
  refine ⟨?_, ?_⟩
  · show _ + (if _ then 1 else 0) = _; rw [if_pos ⟨h1, h2⟩]; rfl
  · show _ + (if _ then 1 else 0) = _; rw [if_neg (fun y => by rw [h2] at y; cases y.2)]; rfl
theorem ch_2 {z m k : Nat} (h1 : z.testBit k = true) (h2 : m.testBit k = false) : chA z m (k + 1) = chA z m k ∧ chB2 z m (k + 1) = chB2 z m k + 1 := by
  refine ⟨?_, ?_⟩
  · show _ + (if _ then 1 else 0) = _; rw [if_neg (fun y => by rw [h2] at y; cases y.2)]; rfl
  · show _ + (if _ then 1 else 0) = _; rw [if_pos ⟨h1, h2⟩]; rfl
theorem ch_3 {z m k : Nat} (h1 : z.testBit k = false) : chA z m (k + 1) = chA z m k ∧ chB2 z m (k + 1) = chB2 z m k := by
  refine ⟨?_, ?_⟩
  · show _ + (if _ then 1 else 0) = _; rw [if_neg (fun y => by rw [h1] at y; cases y.1)]; rfl
  · show _ + (if _ then 1 else 0) = _; rw [if_neg (fun y => by rw [h1] at y; cases y.1)]; rfl
theorem ch_4 : ∀ z, z < 16 → ∀ m, m < 16 → chA z m 4 + chB2 z m 4 ≤ 4 := by decide +kernel
section MDZ
variable {M : mM} {P : Option Value → mM → Prop} {s : cs}

theorem R_chance {x y : Int32} {u : Bool} (h : kM M s) (ho : cOk s) (hp : ∀ M1, ag M M1 72 88 → kM M1 (s) → P (some (.int (a_chance s x y u))) M1) : Ev 88 7 mX8_chance none 0 [.ref 72, .int x, .int y, .int (bI u), .null, .null, .null, .null] [] M P := by
  refine m_thr dX8_chance_0 dX8_chance_1 dX8_chance_2 fwX8_60 h (fun M0 a0 h => ?_)
  replace hp : ∀ M1, ag M0 M1 72 88 → kM M1 (s) → P (some (.int (a_chance s x y u))) M1 := fun M1 ha hk => hp M1 (ag_tr (ag_wd a0 : ag M M0 72 88) ha) hk
  clear a0
  obtain ⟨t, l, p, a, sl, v, sd⟩ := s
  obtain ⟨⟨e, x0⟩, hR⟩ := id h
  obtain ⟨h1, h2, h3, h11, h4, h5, h6, h7⟩ : arr M0 73 40 t.1 t.2 ∧ kML M0 l ∧ kG M0 79 p ∧ (∃ q, kG M0 80 q) ∧ kBk M0 a ∧ kKp M0 sl ∧ kMV M0 v ∧ kX M0 := id hR
  obtain ⟨o1, o2, o3, o4, o5, o6, o7⟩ : txOk t ∧ ltOk l ∧ pgOk p ∧ (∀ q ∈ a, pgOk q) ∧ a.length ≤ 14 ∧ (∀ i q, sl i = some q → pgOk q) ∧ ovOk v := ho
  have hO : kO M0 e t.1 l.1 a.length v.1 sd := x0
  have hl6 := o2.1
  have hv6 := o7.1
  unfold kO at x0
  unfold a_chance at hp
  obtain ⟨⟨fa, xa, ya⟩, -, -, ⟨fd, xd, yd⟩⟩ := id h2
  cases hx : inR x l.1 with
  | true =>
    rw [if_pos hx] at hp
    obtain ⟨j0, hj, rfl⟩ := inR_of hx (by omega)
    have hcl : (nI j0).toNatClampNeg = j0 := n_cl (by omega)
    rw [hcl] at hp
    cases hy : inR y 11 with
    | true =>
      rw [if_pos hy] at hp
      obtain ⟨w, hw, rfl⟩ := inR_of hy (by decide)
      rw [n_cl (by omega)] at hp
      obtain ⟨hp8, -, -, m, hm0, hm, hcm⟩ := o2.2 j0 hj
      have hsh := shN_lt p.1 0
      obtain ⟨sh, hsh2⟩ : ∃ sh, sh = shN p.1 0 := ⟨_, rfl⟩
      obtain ⟨pl, hpl⟩ : ∃ pl, pl = l.2.1 j0 := ⟨_, rfl⟩
      obtain ⟨z, hz⟩ : ∃ z, z = sh / 2 ^ pl % 16 := ⟨_, rfl⟩
      have hz16 : z < 16 := by omega
      have yaj := ya j0 hj
      have ydj := yd j0 hj
      have hcl2 := (ltOk_cells o2 hj).1
      have hc4 := ch_4 z hz16 m hm
      have hch := (ch_hc o2 j0 hj).2 sh
      rw [← hsh2] at hsh
      rw [← hpl] at hp8 hcm yaj
      rw [hcm] at ydj hcl2
      have hpow : 0 < 2 ^ pl := Nat.two_pow_pos _
      obtain ⟨F1, F2, F3⟩ := ch_fin pl (by omega) m hm z hz16
      have hw' : sh &&& 15 * 2 ^ pl = z * 2 ^ pl := by rw [sh_win, ← hz]
      have hfr : ∀ u0 : Nat, (u0 = if andn (m * 2 ^ pl) sh = 0 then 1 else 0) → frQ (chF l (shN p.1 0) j0 w) u = (if u = true then u0 * ((10 - w) ^ chA z m 4 * w ^ chB2 z m 4) else 10 ^ (chA z m 4 + chB2 z m 4)) / Nat.gcd (u0 * ((10 - w) ^ chA z m 4 * w ^ chB2 z m 4)) (10 ^ (chA z m 4 + chB2 z m 4)) := by
        intro u0 hu0
        unfold chF
        rw [← hsh2, ← hpl, hcm]
        rw [ch_an hm, hw'] at hu0
        rw [hw']
        by_cases h0 : andn (m * 2 ^ pl) (z * 2 ^ pl) = 0
        · rw [if_pos h0] at hu0 ⊢
          obtain ⟨G1, G2⟩ := ch_f2 m hm z hz16 (F3.mp h0)
          have E1 : chA z m 4 = cnt (m * 2 ^ pl) := G1.trans F1.symm
          have E2 : chB2 z m 4 = cnt (andn (z * 2 ^ pl) (m * 2 ^ pl)) := G2.trans F2.symm
          rw [E1, E2, hu0, Nat.one_mul]
          rfl
        · rw [if_neg h0] at hu0 ⊢
          have hL : 0 < 10 ^ (chA z m 4 + chB2 z m 4) := Nat.pow_pos (by decide)
          rw [hu0, Nat.zero_mul, Nat.gcd_zero_left]
          unfold frQ
          cases u with
          | true => rw [if_pos rfl, if_pos rfl, Nat.zero_div, Nat.zero_div]
          | false => rw [if_neg (by decide), if_neg (by decide), Nat.div_self hL]; rfl
      have hUp : ∀ u0 : Nat, u0 ≤ 1 → u0 * ((10 - w) ^ chA z m 4 * w ^ chB2 z m 4) ≤ 10000 ∧ 10 ^ (chA z m 4 + chB2 z m 4) ≤ 10000 := by
        intro u0 hu0
        have a1 : (10 - w) ^ chA z m 4 ≤ 10 ^ chA z m 4 := Nat.pow_le_pow_left (by omega) _
        have a2 : w ^ chB2 z m 4 ≤ 10 ^ chB2 z m 4 := Nat.pow_le_pow_left (by omega) _
        have a3 : 10 ^ (chA z m 4 + chB2 z m 4) ≤ 10 ^ 4 := Nat.pow_le_pow_right (by decide) hc4
        have a4 := Nat.mul_le_mul a1 a2
        rw [← Nat.pow_add] at a4
        have a5 := Nat.mul_le_mul hu0 a4
        omega
      have lp : ∀ (j k u0 : Nat), k + j = 4 → u0 ≤ 1 → (u0 = if andn (m * 2 ^ pl) sh = 0 then 1 else 0) → Ev 88 7 mX8_chance none 71 [.ref 72, .int (nI j0), .int (nI w), .int (bI u), .int (nI sh), .int (nI (u0 * ((10 - w) ^ chA z m k * w ^ chB2 z m k))), .int (nI (10 ^ (chA z m k + chB2 z m k))), .int (nI (pl + k))] [] M0 P := by
        intro j
        induction j with
        | zero =>
          intro k u0 hk hu hu0
          obtain rfl : k = 4 := by omega
          have hb := hUp u0 hu
          have hL : 0 < 10 ^ (chA z m 4 + chB2 z m 4) := Nat.pow_pos (by decide)
          have hfq := hfr u0 hu0
          refine ev_iload (i := 7) dX8_chance_71 rfl ?_
          refine ev_aload_n (i := 0) dX8_chance_73 rfl rfl ?_
          refine ev_getfield dX8_chance_74 fX8_13 (by first | omega | decide) (by first | assumption | (simp (disch := omega) only [mu_s, mu_n]; first | assumption | rfl)) (by rfl) ?_
          refine ev_iload_n (i := 1) dX8_chance_77 rfl rfl ?_
          refine ev_ialoadN dX8_chance_78 (by first | omega | decide) (by first | assumption | (simp (disch := omega) only [mu_s, mu_n]; first | assumption | rfl)) (by omega) (by decide) ?_
          refine ev_top (i_op yaj) ?_
          refine ev_iconst (v := nI 4) dX8_chance_79 rfl ?_
          refine ev_iaddN dX8_chance_80 ?_
          refine ev_icmp_geN 134 dX8_chance_81 (by decide) (by omega) (by omega) (fun b81 => ?_) (fun b81 => by exfalso; omega)
          refine ev_iload (i := 5) dX8_chance_134 rfl ?_
          refine ev_iload (i := 6) dX8_chance_136 rfl ?_
          refine ev_iload_n (i := 3) dX8_chance_138 rfl rfl ?_
          refine ev_S3 (μ1 := mX8_fraction) dX8_chance_139 sX8_172 okX8_fraction (Nat.le_of_ble_eq_true rfl) (Nat.le_of_ble_eq_true rfl) ?_
          refine c_mFraction (by omega) (by omega) hL ?_
          refine ev_reti dX8_chance_142 rfl rfl ?_
          rw [← hfq]; exact hp M0 (ag_rf M0 _ _) h
        | succ j ih =>
          intro k u0 hk hu hu0
          have t1 : sh.testBit (pl + k) = z.testBit k := by rw [hz]; exact sh_tb (by omega)
          have t2 : (m * 2 ^ pl).testBit (pl + k) = m.testBit k := m_tb
          have r := ih (k + 1) u0 (by omega) hu hu0
          rw [show pl + (k + 1) = pl + k + 1 by omega] at r
          cases hb1 : z.testBit k with
          | false =>
            obtain ⟨E1, E2⟩ := ch_3 (m := m) hb1
            rw [E1, E2] at r
            refine ev_iload (i := 7) dX8_chance_71 rfl ?_
            refine ev_aload_n (i := 0) dX8_chance_73 rfl rfl ?_
            refine ev_getfield dX8_chance_74 fX8_13 (by first | omega | decide) (by first | assumption | (simp (disch := omega) only [mu_s, mu_n]; first | assumption | rfl)) (by rfl) ?_
            refine ev_iload_n (i := 1) dX8_chance_77 rfl rfl ?_
            refine ev_ialoadN dX8_chance_78 (by first | omega | decide) (by first | assumption | (simp (disch := omega) only [mu_s, mu_n]; first | assumption | rfl)) (by omega) (by decide) ?_
            refine ev_top (i_op yaj) ?_
            refine ev_iconst (v := nI 4) dX8_chance_79 rfl ?_
            refine ev_iaddN dX8_chance_80 ?_
            refine ev_icmp_geN 134 dX8_chance_81 (by decide) (by omega) (by omega) (fun b81 => by exfalso; omega) (fun b81 => ?_)
            refine ev_iload (i := 4) dX8_chance_84 rfl ?_
            refine ev_iload (i := 7) dX8_chance_86 rfl ?_
            refine ev_S2 (μ1 := mX8_has) dX8_chance_88 sX8_99 okX8_has (Nat.le_of_ble_eq_true rfl) (Nat.le_of_ble_eq_true rfl) ?_
            refine c_mHas (by omega) (by omega) ?_
            refine ev_if_eqB 128 dX8_chance_91 (by decide) (fun b91 => ?_) (fun b91 => by rw [t1, hb1] at b91; cases b91)
            refine ev_incN dX8_chance_128 (by rfl) (by decide) rfl ?_
            refine ev_goto 71 dX8_chance_131 (by decide) ?_
            exact r
          | true =>
            cases hb2 : m.testBit k with
            | true =>
              obtain ⟨E1, E2⟩ := ch_1 hb1 hb2
              rw [E1, E2] at r
              refine ev_iload (i := 7) dX8_chance_71 rfl ?_
              refine ev_aload_n (i := 0) dX8_chance_73 rfl rfl ?_
              refine ev_getfield dX8_chance_74 fX8_13 (by first | omega | decide) (by first | assumption | (simp (disch := omega) only [mu_s, mu_n]; first | assumption | rfl)) (by rfl) ?_
              refine ev_iload_n (i := 1) dX8_chance_77 rfl rfl ?_
              refine ev_ialoadN dX8_chance_78 (by first | omega | decide) (by first | assumption | (simp (disch := omega) only [mu_s, mu_n]; first | assumption | rfl)) (by omega) (by decide) ?_
              refine ev_top (i_op yaj) ?_
              refine ev_iconst (v := nI 4) dX8_chance_79 rfl ?_
              refine ev_iaddN dX8_chance_80 ?_
              refine ev_icmp_geN 134 dX8_chance_81 (by decide) (by omega) (by omega) (fun b81 => by exfalso; omega) (fun b81 => ?_)
              refine ev_iload (i := 4) dX8_chance_84 rfl ?_
              refine ev_iload (i := 7) dX8_chance_86 rfl ?_
              refine ev_S2 (μ1 := mX8_has) dX8_chance_88 sX8_99 okX8_has (Nat.le_of_ble_eq_true rfl) (Nat.le_of_ble_eq_true rfl) ?_
              refine c_mHas (by omega) (by omega) ?_
              refine ev_if_eqB 128 dX8_chance_91 (by decide) (fun b91 => by rw [t1, hb1] at b91; cases b91) (fun b91 => ?_)
              refine ev_iload (i := 5) dX8_chance_94 rfl ?_
              refine ev_aload_n (i := 0) dX8_chance_96 rfl rfl ?_
              refine ev_getfield dX8_chance_97 fX8_22 (by first | omega | decide) (by first | assumption | (simp (disch := omega) only [mu_s, mu_n]; first | assumption | rfl)) (by rfl) ?_
              refine ev_iload_n (i := 1) dX8_chance_100 rfl rfl ?_
              refine ev_ialoadN dX8_chance_101 (by first | omega | decide) (by first | assumption | (simp (disch := omega) only [mu_s, mu_n]; first | assumption | rfl)) (by omega) (by decide) ?_
              refine ev_top (i_op ydj) ?_
              refine ev_iload (i := 7) dX8_chance_102 rfl ?_
              refine ev_S2 (μ1 := mX8_has) dX8_chance_104 sX8_99 okX8_has (Nat.le_of_ble_eq_true rfl) (Nat.le_of_ble_eq_true rfl) ?_
              refine c_mHas (by omega) (by omega) ?_
              refine ev_if_eqB 117 dX8_chance_107 (by decide) (fun b107 => by rw [t2, hb2] at b107; cases b107) (fun b107 => ?_)
              refine ev_bipush (v := nI 10) dX8_chance_110 rfl ?_
              refine ev_iload_n (i := 2) dX8_chance_112 rfl rfl ?_
              refine ev_isubN dX8_chance_113 (by omega) ?_
              refine ev_goto 118 dX8_chance_114 (by decide) ?_
              refine ev_imulN dX8_chance_118 ?_
              refine ev_istore (i := 5) dX8_chance_119 (by decide) rfl ?_
              refine ev_iload (i := 6) dX8_chance_121 rfl ?_
              refine ev_bipush (v := nI 10) dX8_chance_123 rfl ?_
              refine ev_imulN dX8_chance_125 ?_
              refine ev_istore (i := 6) dX8_chance_126 (by decide) rfl ?_
              refine ev_incN dX8_chance_128 (by rfl) (by decide) rfl ?_
              refine ev_goto 71 dX8_chance_131 (by decide) ?_
              rw [show u0 * ((10 - w) ^ (chA z m k + 1) * w ^ chB2 z m k) = u0 * ((10 - w) ^ chA z m k * w ^ chB2 z m k) * (10 - w) by rw [Nat.pow_succ, Nat.mul_assoc, Nat.mul_assoc, Nat.mul_assoc, Nat.mul_comm (10 - w)], show 10 ^ (chA z m k + 1 + chB2 z m k) = 10 ^ (chA z m k + chB2 z m k) * 10 by rw [show chA z m k + 1 + chB2 z m k = chA z m k + chB2 z m k + 1 by omega, Nat.pow_succ]] at r
              exact r
            | false =>
              obtain ⟨E1, E2⟩ := ch_2 hb1 hb2
              rw [E1, E2] at r
              refine ev_iload (i := 7) dX8_chance_71 rfl ?_
              refine ev_aload_n (i := 0) dX8_chance_73 rfl rfl ?_
              refine ev_getfield dX8_chance_74 fX8_13 (by first | omega | decide) (by first | assumption | (simp (disch := omega) only [mu_s, mu_n]; first | assumption | rfl)) (by rfl) ?_
              refine ev_iload_n (i := 1) dX8_chance_77 rfl rfl ?_
              refine ev_ialoadN dX8_chance_78 (by first | omega | decide) (by first | assumption | (simp (disch := omega) only [mu_s, mu_n]; first | assumption | rfl)) (by omega) (by decide) ?_
              refine ev_top (i_op yaj) ?_
              refine ev_iconst (v := nI 4) dX8_chance_79 rfl ?_
              refine ev_iaddN dX8_chance_80 ?_
              refine ev_icmp_geN 134 dX8_chance_81 (by decide) (by omega) (by omega) (fun b81 => by exfalso; omega) (fun b81 => ?_)
              refine ev_iload (i := 4) dX8_chance_84 rfl ?_
              refine ev_iload (i := 7) dX8_chance_86 rfl ?_
              refine ev_S2 (μ1 := mX8_has) dX8_chance_88 sX8_99 okX8_has (Nat.le_of_ble_eq_true rfl) (Nat.le_of_ble_eq_true rfl) ?_
              refine c_mHas (by omega) (by omega) ?_
              refine ev_if_eqB 128 dX8_chance_91 (by decide) (fun b91 => by rw [t1, hb1] at b91; cases b91) (fun b91 => ?_)
              refine ev_iload (i := 5) dX8_chance_94 rfl ?_
              refine ev_aload_n (i := 0) dX8_chance_96 rfl rfl ?_
              refine ev_getfield dX8_chance_97 fX8_22 (by first | omega | decide) (by first | assumption | (simp (disch := omega) only [mu_s, mu_n]; first | assumption | rfl)) (by rfl) ?_
              refine ev_iload_n (i := 1) dX8_chance_100 rfl rfl ?_
              refine ev_ialoadN dX8_chance_101 (by first | omega | decide) (by first | assumption | (simp (disch := omega) only [mu_s, mu_n]; first | assumption | rfl)) (by omega) (by decide) ?_
              refine ev_top (i_op ydj) ?_
              refine ev_iload (i := 7) dX8_chance_102 rfl ?_
              refine ev_S2 (μ1 := mX8_has) dX8_chance_104 sX8_99 okX8_has (Nat.le_of_ble_eq_true rfl) (Nat.le_of_ble_eq_true rfl) ?_
              refine c_mHas (by omega) (by omega) ?_
              refine ev_if_eqB 117 dX8_chance_107 (by decide) (fun b107 => ?_) (fun b107 => by rw [t2, hb2] at b107; cases b107)
              refine ev_iload_n (i := 2) dX8_chance_117 rfl rfl ?_
              refine ev_imulN dX8_chance_118 ?_
              refine ev_istore (i := 5) dX8_chance_119 (by decide) rfl ?_
              refine ev_iload (i := 6) dX8_chance_121 rfl ?_
              refine ev_bipush (v := nI 10) dX8_chance_123 rfl ?_
              refine ev_imulN dX8_chance_125 ?_
              refine ev_istore (i := 6) dX8_chance_126 (by decide) rfl ?_
              refine ev_incN dX8_chance_128 (by rfl) (by decide) rfl ?_
              refine ev_goto 71 dX8_chance_131 (by decide) ?_
              rw [show u0 * ((10 - w) ^ chA z m k * w ^ (chB2 z m k + 1)) = u0 * ((10 - w) ^ chA z m k * w ^ chB2 z m k) * w by rw [Nat.pow_succ, Nat.mul_assoc, Nat.mul_assoc], show 10 ^ (chA z m k + (chB2 z m k + 1)) = 10 ^ (chA z m k + chB2 z m k) * 10 by rw [← Nat.add_assoc, Nat.pow_succ]] at r
              exact r
      by_cases h0 : andn (m * 2 ^ pl) sh = 0
      · have st := lp 4 0 1 rfl (by omega) (by rw [if_pos h0])
        refine ev_aload_n (i := 0) dX8_chance_5 rfl rfl ?_
        refine ev_iload_n (i := 1) dX8_chance_6 rfl rfl ?_
        refine ev_V1 (μ1 := mX8_noLetter) dX8_chance_7 sX8_113 okX8_noLetter (by first | omega | decide) (by first | assumption | (simp (disch := omega) only [mu_s, mu_n]; first | assumption | rfl)) (Nat.le_of_ble_eq_true rfl) (Nat.le_of_ble_eq_true rfl) ?_
        refine c_noLetter hO hl6 ?_
        refine ev_top (i_op (congrArg bI ((congrArg Bool.not hx).trans rfl : (!inR (nI j0) l.1) = false))) ?_
        refine ev_if_eqB 15 dX8_chance_10 (by decide) (fun b10 => ?_) (fun b10 => by cases b10)
        refine ev_iload_n (i := 2) dX8_chance_15 rfl rfl ?_
        refine ev_i2l dX8_chance_16 rfl ?_
        refine ev_lconst dX8_chance_17 rfl ?_
        refine ev_ldc2_w dX8_chance_18 kX8_195 ?_
        refine ev_S3 (μ1 := mX8_in) dX8_chance_21 sX8_67 okX8_in (Nat.le_of_ble_eq_true rfl) (Nat.le_of_ble_eq_true rfl) ?_
        refine c_in ?_
        refine ev_top (i_op (congrArg bI ((in_r (n := 11) rfl).trans hy))) ?_
        refine ev_if_neB 30 dX8_chance_24 (by decide) (fun b24 => ?_) (fun b24 => by cases b24)
        refine ev_aload_n (i := 0) dX8_chance_30 rfl rfl ?_
        refine ev_getfield dX8_chance_31 fX8_28 (by first | omega | decide) (by first | assumption | (simp (disch := omega) only [mu_s, mu_n]; first | assumption | rfl)) (by rfl) ?_
        refine ev_S1 (μ1 := mX8_shown) dX8_chance_34 sX8_102 okX8_shown (Nat.le_of_ble_eq_true rfl) (Nat.le_of_ble_eq_true rfl) ?_
        refine c_mShown (p := p) (by omega) h3 o3 ?_
        refine ev_top (i_op (congrArg nI hsh2.symm)) ?_
        refine ev_istore (i := 4) dX8_chance_37 (by decide) rfl ?_
        refine ev_aload_n (i := 0) dX8_chance_39 rfl rfl ?_
        refine ev_getfield dX8_chance_40 fX8_22 (by first | omega | decide) (by first | assumption | (simp (disch := omega) only [mu_s, mu_n]; first | assumption | rfl)) (by rfl) ?_
        refine ev_iload_n (i := 1) dX8_chance_43 rfl rfl ?_
        refine ev_ialoadN dX8_chance_44 (by first | omega | decide) (by first | assumption | (simp (disch := omega) only [mu_s, mu_n]; first | assumption | rfl)) (by omega) (by decide) ?_
        refine ev_top (i_op ydj) ?_
        refine ev_iload (i := 4) dX8_chance_45 rfl ?_
        refine ev_iconst (v := (-1)) dX8_chance_47 rfl ?_
        refine ev_ixor dX8_chance_48 ?_
        refine ev_iand dX8_chance_49 ?_
        refine ev_top (i_op ((andn_nI _ _).trans (congrArg nI h0))) ?_
        refine ev_if_neN 57 dX8_chance_50 (by decide) (by decide) (fun b50 => absurd rfl b50) (fun b50 => ?_)
        refine ev_iconst (v := nI 1) dX8_chance_53 rfl ?_
        refine ev_goto 58 dX8_chance_54 (by decide) ?_
        refine ev_istore (i := 5) dX8_chance_58 (by decide) rfl ?_
        refine ev_iconst (v := nI 1) dX8_chance_60 rfl ?_
        refine ev_istore (i := 6) dX8_chance_61 (by decide) rfl ?_
        refine ev_aload_n (i := 0) dX8_chance_63 rfl rfl ?_
        refine ev_getfield dX8_chance_64 fX8_13 (by first | omega | decide) (by first | assumption | (simp (disch := omega) only [mu_s, mu_n]; first | assumption | rfl)) (by rfl) ?_
        refine ev_iload_n (i := 1) dX8_chance_67 rfl rfl ?_
        refine ev_ialoadN dX8_chance_68 (by first | omega | decide) (by first | assumption | (simp (disch := omega) only [mu_s, mu_n]; first | assumption | rfl)) (by omega) (by decide) ?_
        refine ev_top (i_op yaj) ?_
        refine ev_istore (i := 7) dX8_chance_69 (by decide) rfl ?_
        exact st
      · have st := lp 4 0 0 rfl (by omega) (by rw [if_neg h0])
        rw [Nat.zero_mul] at st
        have hle := andn_le (m * 2 ^ pl) sh
        refine ev_aload_n (i := 0) dX8_chance_5 rfl rfl ?_
        refine ev_iload_n (i := 1) dX8_chance_6 rfl rfl ?_
        refine ev_V1 (μ1 := mX8_noLetter) dX8_chance_7 sX8_113 okX8_noLetter (by first | omega | decide) (by first | assumption | (simp (disch := omega) only [mu_s, mu_n]; first | assumption | rfl)) (Nat.le_of_ble_eq_true rfl) (Nat.le_of_ble_eq_true rfl) ?_
        refine c_noLetter hO hl6 ?_
        refine ev_top (i_op (congrArg bI ((congrArg Bool.not hx).trans rfl : (!inR (nI j0) l.1) = false))) ?_
        refine ev_if_eqB 15 dX8_chance_10 (by decide) (fun b10 => ?_) (fun b10 => by cases b10)
        refine ev_iload_n (i := 2) dX8_chance_15 rfl rfl ?_
        refine ev_i2l dX8_chance_16 rfl ?_
        refine ev_lconst dX8_chance_17 rfl ?_
        refine ev_ldc2_w dX8_chance_18 kX8_195 ?_
        refine ev_S3 (μ1 := mX8_in) dX8_chance_21 sX8_67 okX8_in (Nat.le_of_ble_eq_true rfl) (Nat.le_of_ble_eq_true rfl) ?_
        refine c_in ?_
        refine ev_top (i_op (congrArg bI ((in_r (n := 11) rfl).trans hy))) ?_
        refine ev_if_neB 30 dX8_chance_24 (by decide) (fun b24 => ?_) (fun b24 => by cases b24)
        refine ev_aload_n (i := 0) dX8_chance_30 rfl rfl ?_
        refine ev_getfield dX8_chance_31 fX8_28 (by first | omega | decide) (by first | assumption | (simp (disch := omega) only [mu_s, mu_n]; first | assumption | rfl)) (by rfl) ?_
        refine ev_S1 (μ1 := mX8_shown) dX8_chance_34 sX8_102 okX8_shown (Nat.le_of_ble_eq_true rfl) (Nat.le_of_ble_eq_true rfl) ?_
        refine c_mShown (p := p) (by omega) h3 o3 ?_
        refine ev_top (i_op (congrArg nI hsh2.symm)) ?_
        refine ev_istore (i := 4) dX8_chance_37 (by decide) rfl ?_
        refine ev_aload_n (i := 0) dX8_chance_39 rfl rfl ?_
        refine ev_getfield dX8_chance_40 fX8_22 (by first | omega | decide) (by first | assumption | (simp (disch := omega) only [mu_s, mu_n]; first | assumption | rfl)) (by rfl) ?_
        refine ev_iload_n (i := 1) dX8_chance_43 rfl rfl ?_
        refine ev_ialoadN dX8_chance_44 (by first | omega | decide) (by first | assumption | (simp (disch := omega) only [mu_s, mu_n]; first | assumption | rfl)) (by omega) (by decide) ?_
        refine ev_top (i_op ydj) ?_
        refine ev_iload (i := 4) dX8_chance_45 rfl ?_
        refine ev_iconst (v := (-1)) dX8_chance_47 rfl ?_
        refine ev_ixor dX8_chance_48 ?_
        refine ev_iand dX8_chance_49 ?_
        refine ev_top (i_op (andn_nI _ _)) ?_
        refine ev_if_neN 57 dX8_chance_50 (by decide) (by omega) (fun b50 => ?_) (fun b50 => by exfalso; omega)
        refine ev_iconst (v := nI 0) dX8_chance_57 rfl ?_
        refine ev_istore (i := 5) dX8_chance_58 (by decide) rfl ?_
        refine ev_iconst (v := nI 1) dX8_chance_60 rfl ?_
        refine ev_istore (i := 6) dX8_chance_61 (by decide) rfl ?_
        refine ev_aload_n (i := 0) dX8_chance_63 rfl rfl ?_
        refine ev_getfield dX8_chance_64 fX8_13 (by first | omega | decide) (by first | assumption | (simp (disch := omega) only [mu_s, mu_n]; first | assumption | rfl)) (by rfl) ?_
        refine ev_iload_n (i := 1) dX8_chance_67 rfl rfl ?_
        refine ev_ialoadN dX8_chance_68 (by first | omega | decide) (by first | assumption | (simp (disch := omega) only [mu_s, mu_n]; first | assumption | rfl)) (by omega) (by decide) ?_
        refine ev_top (i_op yaj) ?_
        refine ev_istore (i := 7) dX8_chance_69 (by decide) rfl ?_
        exact st
    | false =>
      rw [hy, if_neg (by decide)] at hp
      refine ev_aload_n (i := 0) dX8_chance_5 rfl rfl ?_
      refine ev_iload_n (i := 1) dX8_chance_6 rfl rfl ?_
      refine ev_V1 (μ1 := mX8_noLetter) dX8_chance_7 sX8_113 okX8_noLetter (by first | omega | decide) (by first | assumption | (simp (disch := omega) only [mu_s, mu_n]; first | assumption | rfl)) (Nat.le_of_ble_eq_true rfl) (Nat.le_of_ble_eq_true rfl) ?_
      refine c_noLetter hO hl6 ?_
      refine ev_top (i_op (congrArg bI ((congrArg Bool.not hx).trans rfl : (!inR (nI j0) l.1) = false))) ?_
      refine ev_if_eqB 15 dX8_chance_10 (by decide) (fun b10 => ?_) (fun b10 => by cases b10)
      refine ev_iload_n (i := 2) dX8_chance_15 rfl rfl ?_
      refine ev_i2l dX8_chance_16 rfl ?_
      refine ev_lconst dX8_chance_17 rfl ?_
      refine ev_ldc2_w dX8_chance_18 kX8_195 ?_
      refine ev_S3 (μ1 := mX8_in) dX8_chance_21 sX8_67 okX8_in (Nat.le_of_ble_eq_true rfl) (Nat.le_of_ble_eq_true rfl) ?_
      refine c_in ?_
      refine ev_top (i_op (congrArg bI ((in_r (n := 11) rfl).trans hy))) ?_
      refine ev_if_neB 30 dX8_chance_24 (by decide) (fun b24 => by cases b24) (fun b24 => ?_)
      refine ev_bipush (v := (-2)) dX8_chance_27 rfl ?_
      refine ev_reti dX8_chance_29 rfl rfl ?_
      exact hp M0 (ag_rf M0 _ _) h
  | false =>
    rw [hx, if_neg (by decide)] at hp
    refine ev_aload_n (i := 0) dX8_chance_5 rfl rfl ?_
    refine ev_iload_n (i := 1) dX8_chance_6 rfl rfl ?_
    refine ev_V1 (μ1 := mX8_noLetter) dX8_chance_7 sX8_113 okX8_noLetter (by first | omega | decide) (by first | assumption | (simp (disch := omega) only [mu_s, mu_n]; first | assumption | rfl)) (Nat.le_of_ble_eq_true rfl) (Nat.le_of_ble_eq_true rfl) ?_
    refine c_noLetter hO hl6 ?_
    refine ev_top (i_op (congrArg bI ((congrArg Bool.not hx).trans rfl : (!inR x l.1) = true))) ?_
    refine ev_if_eqB 15 dX8_chance_10 (by decide) (fun b10 => by cases b10) (fun b10 => ?_)
    refine ev_iconst (v := (-1)) dX8_chance_13 rfl ?_
    refine ev_reti dX8_chance_14 rfl rfl ?_
    exact hp M0 (ag_rf M0 _ _) h
end MDZ
