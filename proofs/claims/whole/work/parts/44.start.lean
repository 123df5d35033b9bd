def R_law : String := "BlottedFirstLaw"
def lw_P (b : Addr) (xs : List Int32) (args : Array Value) (s : State) : Prop := args = #[.ref b] ∧ s.IntsAt b xs ∧ xs.length ≤ 256 ∧ (Jvm.Cond.and given_1 narrow_1).before args s = true
def lw_Q (_ : Array Value) (s : State) (o : Outcome) (t : State) : Prop := o = .returned (some (.int 1)) ∧ Framed s o t [] 600000 7302249
def lw_Z (below : List Frame) (a : Array Value) (s : State) : State → Prop := fun t => ∃ o, t.status = .running ∧ Ended t below o ∧ lw_Q a s o t
/-- the law's own end, with 1 on the stack, nothing written that was there before, its room as the claim has it -/
theorem lw_ret {p : Program} {l : Launch} {e : Env} {s : State} {m : MethodId} {below : List Frame} {meth : Method} {c : Code} {b : Nat} (hx : p.tables.exec = Jvm.exec) (hb : c.code = code) (hr : meth.sig.returnType = ret) (hlocks : meth.locks = false) {pc : Nat} {H : Heap} {ls : Array Slot} (hdg : decode code pc = .ok (.ireturn, 1)) : W p l e room_1 s m #[Value.ref b] below meth c H [] 600000 7302249 (lw_Z below #[Value.ref b] s) (F0 m pc ls [.int 1]) := by
  intro T hT X
  obtain ⟨fs, hret, hrun, hended, hW, hframe⟩ := X.leave (v := some (.int 1)) (hlocks := hlocks) (fun h => by rw [hr] at h; cases h)
  have hmeth' : T.vm.method? m = some meth := X.method'
  refine ⟨T.setFrames fs, ?_, .returned (some (.int 1)), hrun, hended, rfl, ⟨_, rfl⟩, hW, hframe⟩
  jvm_step X.here [X.here.top, hx, hb, hdg, hmeth', hr, ret, narrow_b1]
  (try refine ⟨rfl, ?_⟩); (try refine ⟨rfl, ?_⟩)
  first | (intro acts; rw [hret _ acts rfl rfl rfl]) | rw [hret _ _ rfl rfl rfl]
  exact Steps.refl _
/-- what holds at the law's entry: the machine, the code, the tables' words (any of lw_tbl by 'hts w (by decide +kernel)'), the script of L ints xs at the cell b, what the Statement gives of the start (any of its parts by flat_of_before) -/
def lw_At (p : Program) (s : State) (m : MethodId) (meth : Method) (c : Code) (b L : Nat) (xs : Nat → Int32) : Prop :=
  p.tables.exec = Jvm.exec ∧ c.code = code ∧ meth.sig.returnType = ret ∧ c.maxLocals = 4 ∧ s.vm.findClass R_law = some m.cls ∧ (∀ w ∈ lw_tbl, w.before #[Value.ref b] s = true) ∧ va_X b L xs s s.heap ∧ b < s.heap.size ∧ meth.locks = false ∧ (Jvm.Cond.and given_1 narrow_1).before #[Value.ref b] s = true
theorem e_kn {own : String} {idx ci n : Nat} {s : State} {args : Array Value} (hts : ∀ w ∈ e_big, w.before args s = true) (h : e_cli own idx ci n) : ∃ x : ClassId × (Nat → Nat), ∀ q, vwCl[ci]? = some q → u_Kn s q.1 q.2.1 q.2.2 x.1 x.2 := by
  obtain ⟨r, hr, rfl, -, h4, -⟩ := h
  obtain ⟨cC, iS, hk⟩ := u_known hts (e_cls hr).1 (hts _ h4)
  exact ⟨(cC, iS), fun q hq => by rw [← Option.some.inj (hr.symm.trans hq)]; exact hk⟩
theorem e_R_cg {ls : Array Slot} {n : Nat} {ad ad1 : Nat → Nat} {L : List Value} (h : e_R ls n ad L) (ha : ∀ v ∈ L, e_v ad1 v = e_v ad v) : e_R ls n ad1 L := ⟨h.1, h.2.1, fun i v hi hn => by rw [ha v (List.mem_of_getElem? hi)]; exact h.2.2 i v hi hn⟩
theorem e_nst_on : ∀ w : Cond, e_isN w = true → w.onTables = true := fun w h => by cases w <;> first | rfl | cases h
section W44
variable {p : Program} {l : Launch} {e : Env} {R : Room} {s : State} {m : MethodId} {args : Array Value} {below : List Frame} {meth : Method} {c : Code} {H : Heap} {locs : List Loc} {cells slots : Nat} {Q : State → Prop}
variable {cc : ByteArray} {pc nL : Nat} {ls : Array Slot} {rest : List Value} {D : va_G} {cA : Nat → ClassId} {A : Nat → Prop} {ad : Nat → Nat} {N d : Nat} {M : mM} {own : String} {μ1 : mI}
theorem w_new {idx ci n : Nat} {fs : List Value} (hx : p.tables.exec = Jvm.exec) (hb : c.code = cc) (hown : s.vm.findClass own = some m.cls) (hts : ∀ w ∈ e_big, w.before args s = true) (hK : va_K D vwCl (e_tys cA) s) (hA : ∀ q : Nat, s.heap.size ≤ q → A q) (hR3 : cells + 1 ≤ R.cells) (hR4 : slots + n ≤ R.slots) (h : decode cc pc = .ok (.new idx, 3)) (hc : e_cli own idx ci n) (hf : e_dfs ci fs) (w1 : wfM N M) (hP : va_P D vwCl (e_w N ad cA M) H) (hD : va_D A (e_w N ad cA M)) (hS : va_S A s.heap H locs)
    (kk : ∀ (q : Nat) (H1 : Heap), wfM (N + 1) (mu M N (.inr (ci, fs))) → va_P D vwCl (e_w (N + 1) (fun k => if k = N then q else ad k) cA (mu M N (.inr (ci, fs)))) H1 → va_D A (e_w (N + 1) (fun k => if k = N then q else ad k) cA (mu M N (.inr (ci, fs)))) → va_S A s.heap H1 locs → W p l e R s m args below meth c H1 locs (cells + 1) (slots + n) Q (F0 m (pc + 3) ls (.ref q :: rest))) :
    W p l e R s m args below meth c H locs cells slots Q (F0 m pc ls rest) := by
  obtain ⟨r, c1, rfl, c3, c4, c5⟩ := hc
  obtain ⟨r', f1, f2, f3⟩ := hf
  have hrr : r' = r := Option.some.inj (f1.symm.trans c1)
  subst hrr
  obtain ⟨g1, ⟨ty0, g2⟩, g3⟩ := e_cls c1
  refine va_new (ci := ci) (fs := fs) (C := r'.1) (T := r'.2.1) (N := r'.2.2) hx hb hts g1 ty0 g2 hown (hts _ c3) (hts _ c4) (hts _ c5) hK hP hD hS hA c1 (fun j hj => f2 j hj _ (g2 j hj)) hR3 hR4 h (fun q H1 hP1 hD1 hS1 => ?_)
  have ew := e_w_new (q := q) (ad := ad) (cA := cA) (x := .inr (ci, fs)) w1 (wf_nr f3)
  have ex : e_c ad cA (.inr (ci, fs)) = .inr (ci, fs) := by show (Sum.inr (ci, fs.map (e_v ad)) : va_E) = _; rw [map_nr f3]
  rw [ex] at ew
  rw [ew] at hP1 hD1
  exact kk q H1 (wfM_new w1 (wf_nr f3)) hP1 hD1 hS1
theorem w_invI {idx q mc ms : Nat} {P1 : Nat → mM → Prop} (hx : p.tables.exec = Jvm.exec) (hb : c.code = cc) (hml : c.maxLocals = nL) (hown : s.vm.findClass own = some m.cls) (hts : ∀ w ∈ e_big, w.before args s = true) (hN : ∀ w ∈ e_nst, va_Nw w s) (hK : va_K D vwCl (e_tys cA) s) (hO : va_AO RX3 s) (hA : ∀ q : Nat, s.heap.size ≤ q → A q) (hR1 : d + 1 ≤ R.frames) (hR2 : 33 * d + 33 ≤ R.locals) (hR3 : cells + mc ≤ R.cells) (hR4 : slots + ms ≤ R.slots) (h : decode cc pc = .ok (.invokespecial idx, 3)) (hs : e_site own idx μ1.1) (ho : e_okI μ1) (w1 : wfM N M) (hk : q < N) (hP : va_P D vwCl (e_w N ad cA M) H) (hD : va_D A (e_w N ad cA M)) (hS : va_S A s.heap H locs) (hls : ls.size = nL) (hw : (rest.map fun v => v.category).sum ≤ 8)
    (k : Gv N d mc ms μ1 0 (e_ent μ1.2.2.1 [.ref q]) [] M P1)
    (kk : ∀ (N1 : Nat) (M1 : mM) (ad1 : Nat → Nat) (H1 : Heap) (locs1 : List Loc), (∀ k, k < N → ad1 k = ad k) → P1 N1 M1 → wfM N1 M1 → va_P D vwCl (e_w N1 ad1 cA M1) H1 → va_D A (e_w N1 ad1 cA M1) → va_S A s.heap H1 locs1 → W p l e R s m args below meth c H1 locs1 (cells + mc) (slots + ms) Q (F0 m (pc + 3) ls rest)) :
    W p l e R s m args below meth c H locs cells slots Q (F0 m pc ls (.ref (ad q) :: rest)) := by
  obtain ⟨⟨o1, o2, o3, ⟨o4, o4'⟩, o5⟩, ⟨o6, o6'⟩, o7⟩ := ho
  have hM1 := g_met w1 hk o5 o4 k l D cA ad H.size
  have hFc : ∀ q, va_A (e_w N ad cA M) H.size q → A q := fun q hq => by
    rcases hq with ⟨k1, e1, hq⟩ | hq
    · exact hD.2 k1 _ hq
    · exact hA q (Nat.le_trans hS.1 hq)
  have hpre : ∀ U : State, U.heap = H → s.WarmedH U.vm → va_Pc ([Value.ref q].map (e_v ad)) (g_pre N D cA ad M H.size) (Value.ref (ad q) :: ([] : List Value)).toArray U := fun U hU hW => ⟨rfl, ⟨by rw [hU], by rw [hU]; exact hP, va_K.moved hW.alike hK, hD.weaken (fun _ _ _ _ => trivial), e_nst_warm hW hN⟩, va_AO.moved hW.alike hO⟩
  have hcod : Cond.code μ1.1 μ1.2.1 μ1.2.2.1 μ1.2.2.2 ∈ e_big := by rw [o6']; exact o1
  have hwsE : e_ws μ1 = Cond.code μ1.1 μ1.2.1 μ1.2.2.1 none :: e_big := by unfold e_ws; rw [o6']
  have hroom : (g_rm d mc ms).frames + 1 ≤ R.frames ∧ 8 + (μ1.2.2.1 + 11) + (g_rm d mc ms).locals ≤ R.locals := by
    refine ⟨hR1, ?_⟩
    show 8 + (μ1.2.2.1 + 11) + 33 * d ≤ R.locals
    omega
  have run : va_Run p l e R s m args below meth c H locs cells slots mc ms (F0 m pc ls (.ref (ad q) :: rest)) rest (g_Qc N P1 D cA ad (va_A (e_w N ad cA M) H.size) (Value.ref (ad q) :: ([] : List Value)).toArray) (va_A (e_w N ad cA M) H.size) := by
    rcases hs with hs | ⟨host, hs⟩
    · exact va_runI (As := []) (rest := rest) (n := 0) (g := F0 m pc ls (.ref (ad q) :: rest)) ⟨hx, hb, hml, hown, hts⟩ hM1 ⟨callB_of 0 hts (e_goodIn hcod) hwsE rfl rfl (hts _ o2) (hts _ hs) o3 hroom, o6, hts _ o7⟩ ⟨g_pre_blind _, hpre⟩ rfl rfl hls rfl (lv_room hw) h ⟨hR3, hR4⟩
    · exact va_runIN (As := []) (rest := rest) (n := 0) (g := F0 m pc ls (.ref (ad q) :: rest)) ⟨hx, hb, hml, hown, hts⟩ hM1 ⟨va_cnB 0 hts (e_goodIn hcod) hwsE rfl rfl (hN _ hs) (hts _ o2) o3 hroom, o6, hts _ o7⟩ ⟨g_pre_blind _, hpre⟩ rfl rfl hls rfl (lv_room hw) h ⟨hR3, hR4⟩
  refine g_call run hS (fun q _ z => hFc q z) hFc (fun N1 M1 ad1 t H1 locs1 ht hag hp hw1 hB hS1 => ?_)
  obtain ⟨b1, b2, b3⟩ := hB
  rw [ht] at b1
  exact kk N1 M1 ad1 H1 locs1 hag hp hw1 b1 (b3.weaken (fun _ q _ z => hFc _ z)) hS1
end W44
set_option maxHeartbeats 4000000 in
theorem whole_start {p : Program} {e : Env} {s : State} {m : MethodId} {below : List Frame} {meth : Method} {c : Code} (l : Launch) (hflags : l.flags = flags0) {b L : Nat} {xs : Nat → Int32} (hL : L ≤ 256) (C0 : lw_At p s m meth c b L xs) : W p l e room_1 s m #[Value.ref b] below meth c s.heap [] 0 0 (lw_Z below #[Value.ref b] s) (entryFrame m ([Value.ref b] : List Value).toArray 4) := by
  obtain ⟨hx, hb, hr, hml, hown, hts, hX, hbl, hlocks, hgv⟩ := C0
  have htb : ∀ w ∈ e_big, w.before #[Value.ref b] s = true := fun w hw => hts w (List.mem_filter.mp hw).1
  have hN : ∀ w ∈ e_nst, va_Nw w s := fun w hw => va_Nw.of (e_nst_on w (e_nst_is w hw)) (hts w (List.mem_filter.mp hw).1)
  have hO : va_AO RX3 s := va_AO.of (hts _ ao_s)
  have hc : ∀ c : Nat, ∃ x : ClassId × (Nat → Nat), ∀ q, vwCl[c]? = some q → u_Kn s q.1 q.2.1 q.2.2 x.1 x.2 := fun c => by
    match c with
    | 0 => exact e_kn htb clXX7_33
    | 1 => exact e_kn htb clXX7_16
    | 2 => exact e_kn htb clXX7_40
    | 3 => exact e_kn htb clXX7_23
    | 4 => exact e_kn htb clXX7_47
    | 5 => exact e_kn htb clXX7_7
    | 6 => exact e_kn htb clXX7_54
    | 7 => exact e_kn htb clXL_7
    | 8 => exact e_kn htb clXL_10
    | c + 9 => exact ⟨(0, fun _ => 0), fun q hq => by simp [vwCl] at hq⟩
  obtain ⟨D, hD0⟩ : ∃ D : va_G, ∀ (c : Nat) (q : vw_C), vwCl[c]? = some q → u_Kn s q.1 q.2.1 q.2.2 (D.1 c) (D.2 c) := ⟨(fun c => (Classical.choose (hc c)).1, fun c => (Classical.choose (hc c)).2), fun c => Classical.choose_spec (hc c)⟩
  obtain ⟨ci, ki, compi, i1, i2, i3⟩ := Cond.arrayClass_spec (htb _ ac_i)
  obtain ⟨cz, kz, compz, z1, z2, z3⟩ := Cond.arrayClass_spec (htb _ ac_z)
  obtain ⟨comps, cq, ks, s1, s2, s3, s4, s5⟩ := Cond.arrayOver_spec (hts _ ao_s)
  obtain ⟨cA, a0, a1, a2⟩ : ∃ cA : Nat → ClassId, cA 0 = ci ∧ cA 1 = cz ∧ cA 2 = cq := ⟨fun k => if k = 0 then ci else if k = 1 then cz else cq, rfl, rfl, rfl⟩
  subst a0; subst a1; subst a2
  have hK : va_K D vwCl (e_tys cA) s := ⟨hD0, fun k q hq => by
    match k, hq with
    | 0, hq => cases hq; exact ⟨fun n z => ⟨(fun k h => by cases h), ki, i2, compi, i3⟩, i1⟩
    | 1, hq => cases hq; exact ⟨fun n z => ⟨(fun k h => by cases h), kz, z2, compz, z3⟩, z1⟩
    | 2, hq => cases hq; exact ⟨fun n z => ⟨(fun k h => by cases h), ks, s3, comps, s4⟩, ks, comps, s3, s4, s1, s5⟩
    | k + 3, hq => simp [e_tys] at hq⟩
  rw [lg_entry_eq]
  have hl : e_R ((lg_sl [Value.ref b] ++ List.replicate (4 - (lg_sl [Value.ref b]).length) Slot.unset).toArray) 4 (fun _ => b) [.ref 1000, .null, .null, .null] := e_R_ent (fun _ => b) [.ref 1000] (n := 4) (Nat.le_of_ble_eq_true rfl)
  generalize (lg_sl [Value.ref b] ++ List.replicate (4 - (lg_sl [Value.ref b]).length) Slot.unset).toArray = ls at hl ⊢
  refine w_new (N := 0) (A := fun q : Nat => s.heap.size ≤ q) (D := D) (cA := cA) (ad := fun _ => b) (M := fun _ => .inl (0, 0, .inl (fun _ => 0))) (own := RL) (fs := [.null, .null, .null, .null, .null, .null, .null, .null, .long 0]) (n := 9) hx hb hown htb hK (fun _ h => h) (Nat.le_of_ble_eq_true rfl) (Nat.le_of_ble_eq_true rfl) dL_law_0 clXL_7 dfX7 (fun k hk => absurd hk (Nat.not_lt_zero k)) (fun k q hq => by simp [e_w] at hq) ⟨fun i j x y hi => by simp [e_w] at hi, fun k q hq => by simp [e_w] at hq⟩ va_S.rf (fun q0 H1 w1 hP hD hS => ?_)
  refine lv_dup hx hb dL_law_3 rfl ?_
  refine w_invI (N := 0 + 1) (d := 7) (q := 0) (mc := 71) (ms := 665) (μ1 := mX7_init) (own := RL) (P1 := fun N1 M1 => N1 = 72 ∧ kC M1 s_0) (ad := fun k => if k = 0 then q0 else b) hx hb hml hown htb hN hK hO (fun _ h => h) (Nat.le_of_ble_eq_true rfl) (Nat.le_of_ble_eq_true rfl) (Nat.le_of_ble_eq_true rfl) (Nat.le_of_ble_eq_true rfl) dL_law_4 sL_9 okX7_init w1 (by omega) hP hD hS hl.1 (Nat.le_of_ble_eq_true rfl) (i_X7 (d := 2) (mu_s _ _ _) (fun M1 h => ⟨rfl, h⟩)) (fun N1 M1 ad1 H2 locs1 hag hp hw hP hD hS => ?_)
  obtain ⟨rfl, hC⟩ := hp
  have e1 : ad1 0 = q0 := (hag 0 (by omega)).trans (if_pos rfl)
  obtain ⟨ad2, b1, b2⟩ : ∃ ad2 : Nat → Nat, ad2 1000 = b ∧ ∀ k, k < 72 → ad2 k = ad1 k := ⟨fun k => if k = 1000 then b else ad1 k, if_pos rfl, fun k hk => if_neg (by omega)⟩
  rw [← e_w_ag hw b2] at hP hD
  have b0 : ad2 0 = q0 := (b2 0 (by omega)).trans e1
  have hl : e_R ls 4 ad2 [.ref 1000, .null, .null, .null] := e_R_cg hl (fun v hv => by
    simp at hv
    rcases hv with rfl | rfl
    · show Value.ref (ad2 1000) = .ref b; rw [b1]
    · rfl)
  show W p l e room_1 s m #[Value.ref b] below meth c H2 locs1 72 674 (lw_Z below #[Value.ref b] s) (F0 m 7 ls [.ref q0])
  have ev : Value.ref q0 = e_v ad2 (.ref 0) := by show _ = Value.ref (ad2 0); rw [b0]
  rw [ev]
  refine lv_astore_n hx hb dL_law_7 rfl hl.lv (by decide) rfl (fun ls1 hl1 => ?_)
  have hl1 : e_R ls1 4 ad2 [.ref 1000, .ref 0, .null, .null] := e_R_st1 (L := [.ref 1000, .null, .null, .null]) (i := 1) (v := .ref 0) hl1 rfl
  refine w_new (N := 72) (A := fun q : Nat => s.heap.size ≤ q) (D := D) (cA := cA) (ad := ad2) (M := M1) (own := RL) (fs := [.int 0, .null, .int 0, .int 0, .int 0, .null, .null, .null, .null, .int 0, .null, .null, .null, .null, .int 0, .null, .null, .int 0, .null, .null, .long 0, .int 0, .int 0, .int 0, .int 0, .null, .null]) (n := 27) hx hb hown htb hK (fun _ h => h) (Nat.le_of_ble_eq_true rfl) (Nat.le_of_ble_eq_true rfl) dL_law_8 clXL_10 dfX8 hw hP hD hS (fun q1 H3 w2 hP hD hS => ?_)
  refine lv_dup hx hb dL_law_11 rfl ?_
  obtain ⟨ad3, c1, c2⟩ : ∃ ad3 : Nat → Nat, ad3 = (fun k => if k = 72 then q1 else ad2 k) ∧ ad3 72 = q1 := ⟨_, rfl, if_pos rfl⟩
  rw [← c1] at hP hD
  show W p l e room_1 s m #[Value.ref b] below meth c H3 locs1 73 701 (lw_Z below #[Value.ref b] s) (F0 m 12 ls1 [.ref q1, .ref q1])
  rw [← c2]
  refine w_invI (N := 73) (d := 7) (q := 72) (mc := 15) (ms := 622) (μ1 := mX8_init) (own := RL) (P1 := fun N1 M2 => N1 = 88 ∧ kC M2 s_0 ∧ kM M2 s_0) (ad := ad3) (nL := 4) hx hb hml hown htb hN hK hO (fun _ h => h) (Nat.le_of_ble_eq_true rfl) (Nat.le_of_ble_eq_true rfl) (Nat.le_of_ble_eq_true rfl) (Nat.le_of_ble_eq_true rfl) dL_law_12 sL_12 okX8_init w2 (by omega) hP hD hS hl1.1 (Nat.le_of_ble_eq_true rfl) (i_X8 (d := 6) (mu_s _ _ _) (fun M2 ha hm => ⟨rfl, kC_ag (kC_ag hC (ag_mu (ag_rf M1 72 88) (by omega) (by omega))) ha, hm⟩)) (fun N1 M2 ad4 H4 locs2 hag hp hw hP hD hS => ?_)
  obtain ⟨rfl, hC2, hM2⟩ := hp
  obtain ⟨ad5, d1, d2⟩ : ∃ ad5 : Nat → Nat, ad5 1000 = b ∧ ∀ k, k < 88 → ad5 k = ad4 k := ⟨fun k => if k = 1000 then b else ad4 k, if_pos rfl, fun k hk => if_neg (by omega)⟩
  rw [← e_w_ag hw d2] at hP hD
  have d0 : ad5 0 = ad2 0 := (d2 0 (by omega)).trans ((hag 0 (by omega)).trans (by rw [c1]; rfl))
  have d3 : ad5 72 = ad3 72 := (d2 72 (by omega)).trans (hag 72 (by omega))
  have hl2 : e_R ls1 4 ad5 [.ref 1000, .ref 0, .null, .null] := e_R_cg hl1 (fun v hv => by
    simp at hv
    rcases hv with rfl | rfl | rfl
    · show Value.ref (ad5 1000) = .ref (ad2 1000); rw [b1, d1]
    · show Value.ref (ad5 0) = .ref (ad2 0); rw [d0]
    · rfl)
  show W p l e room_1 s m #[Value.ref b] below meth c H4 locs2 88 1323 (lw_Z below #[Value.ref b] s) (F0 m 15 ls1 [.ref (ad3 72)])
  rw [← d3]
  refine lv_astore_n hx hb dL_law_15 rfl hl2.lv (by decide) rfl (fun ls2 hl3 => ?_)
  have hl3 : e_R ls2 4 ad5 [.ref 1000, .ref 0, .ref 72, .null] := e_R_st1 (L := [.ref 1000, .ref 0, .null, .null]) (i := 2) (v := .ref 72) hl3 rfl
  refine lv_iconst (v := nI 0) hx hb dL_law_16 rfl ?_
  refine lv_istore_n hx hb dL_law_17 rfl hl3.lv (by decide) rfl (fun ls3 hl4 => ?_)
  have hl4 : e_R ls3 4 ad5 [.ref 1000, .ref 0, .ref 72, .int (nI 0)] := e_R_st1 (L := [.ref 1000, .ref 0, .ref 72, .null]) (i := 3) (v := .int (nI 0)) hl4 rfl
  have hRet : ∀ (r : Option Value) (M1 : mM) (H1 : Heap) (locs1 : List Loc) (ls1 : Array Slot) (pc1 : Nat), (fun (r : Option Value) (_ : mM) => r = some (.int (nI 1))) r M1 → e_ret mL_law pc1 r → va_P D vwCl (e_w 88 ad5 cA M1) H1 → va_D (fun q : Nat => s.heap.size ≤ q) (e_w 88 ad5 cA M1) → va_S (fun q : Nat => s.heap.size ≤ q) s.heap H1 locs1 → W p l e room_1 s m #[Value.ref b] below meth c H1 locs1 88 1323 (lw_Z below #[Value.ref b] s) (F0 m pc1 ls1 (r.toList.map (e_v ad5))) := by
    intro r M3 H5 locs3 ls4 pc1 hp hret hP5 hD5 hS5
    subst hp
    refine va_forget (fun q hq => hS5.2.2 q hq) ?_
    refine W.widen (k := 600000) (n := 7302249) (Nat.le_of_ble_eq_true rfl) (Nat.le_of_ble_eq_true rfl) ?_
    exact lw_ret hx hb hr hlocks hret.1
  have hXX : ∀ (L1 : Nat) (xs1 : Nat → Int32), (some (L, xs) : mX) = some (L1, xs1) → va_X (ad5 1000) L1 xs1 s s.heap ∧ ad5 1000 < s.heap.size ∧ ¬ (fun q : Nat => s.heap.size ≤ q) (ad5 1000) := by
    intro L1 xs1 h
    cases h
    rw [d1]
    exact ⟨hX, hbl, Nat.not_le.mpr hbl⟩
  have hE : e_env 88 8 mL_law (some (L, xs)) (fun r _ => r = some (.int (nI 1))) p l e room_1 s m #[Value.ref b] below meth c 88 1323 (lw_Z below #[Value.ref b] s) (fun q : Nat => s.heap.size ≤ q) D cA ad5 := by
    unfold e_env
    exact ⟨hx, hb, hml, hown, htb, hN, hK, fun _ h => h, ⟨Nat.le_of_ble_eq_true rfl, Nat.le_of_ble_eq_true rfl, Nat.le_of_ble_eq_true rfl, Nat.le_of_ble_eq_true rfl⟩, hXX, hRet⟩
  exact law_lp (P := fun r _ => r = some (.int (nI 1))) hL (fun _ => rfl) (L + 1) 0 M2 s_0 (by omega) (by omega) hC2 hM2 ok_0 _ _ _ _ _ _ _ _ _ _ _ _ _ _ _ _ _ hE H4 locs2 ls3 hP hD hS hl4
