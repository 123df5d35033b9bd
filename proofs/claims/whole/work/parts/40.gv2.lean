/-! ===== a world that grows: the rest of its rules ===== -/
def e_okI (μ : mI) : Prop := (Cond.code μ.1 μ.2.1 μ.2.2.1 none ∈ e_big ∧ Cond.initialized μ.1.cls ∈ e_big ∧ (μ.1.cls ≠ "java/lang/invoke/MethodHandle" ∧ μ.1.cls ≠ "java/lang/invoke/VarHandle" ∧ (parseMethodDescriptor μ.1.desc).map (fun d => d.parameters.length) = some 0) ∧ (1 ≤ μ.2.2.1 ∧ μ.2.2.1 ≤ 14) ∧ plainName μ.1.cls = true) ∧ (μ.1.name = "<init>" ∧ μ.2.2.2 = none) ∧ Cond.instanceMethod μ.1 ∈ e_big
def e_fin (own : String) (idx ci j : Nat) : Prop := ∃ (r : vw_C) (ty : FieldType), vwCl[ci]? = some r ∧ j < r.2.2 ∧ Cond.fieldLink own idx (r.2.1 j).1 (r.2.1 j).2.1 (r.2.1 j).2.2.1 ∈ e_big ∧ (r.2.1 j).2.2.2 = true ∧ (r.2.1 j).1 = own ∧ parseFieldDescriptor (r.2.1 j).2.2.1 = some ty ∧ (∀ a, narrow ty (.ref a) = .ref a) ∧ ∀ a, fits ty (.ref a) = true
def e_cli (own : String) (idx ci n : Nat) : Prop := ∃ r : vw_C, vwCl[ci]? = some r ∧ r.2.2 = n ∧ Cond.classLink own idx r.1 ∈ e_big ∧ Cond.instantiable r.1 r.2.2 ∈ e_big ∧ Cond.initialized r.1 ∈ e_big
def e_dfs (ci : Nat) (fs : List Value) : Prop := ∃ r : vw_C, vwCl[ci]? = some r ∧ (∀ j, j < r.2.2 → ∀ ty, parseFieldDescriptor (r.2.1 j).2.2.1 = some ty → defaultValue ty = vp_V fs j) ∧ fs.all (fun v => match v with | .ref _ => false | _ => true) = true
theorem wf_nr {N ci : Nat} {fs : List Value} (h : fs.all (fun v => match v with | .ref _ => false | _ => true) = true) : wfC N (.inr (ci, fs)) := fun v hv k z => by
  have := List.all_eq_true.mp h v hv
  rw [z] at this
  cases this
theorem map_nr {fs : List Value} (h : fs.all (fun v => match v with | .ref _ => false | _ => true) = true) (ad : Nat → Nat) : fs.map (e_v ad) = fs := by
  have : fs.map (e_v ad) = fs.map id := List.map_congr_left (fun v hv => by
    have := List.all_eq_true.mp h v hv
    cases v <;> first | rfl | cases this)
  rw [this, List.map_id]
section GVC
variable {p : Program} {l : Launch} {e : Env} {R : Room} {s : State} {m : MethodId} {args : Array Value} {below : List Frame} {meth : Method} {c : Code} {H : Heap} {locs : List Loc} {cells slots : Nat} {Q : State → Prop}
variable {pc : Nat} {ls : Array Slot} {rest st0 : List Value} {a : Array Value} {A0 A1 : Nat → Prop} {H0 : Heap} {free : Addr → Prop} {mc ms : Nat}
theorem g_call {N : Nat} {P : Nat → mM → Prop} {D : va_G} {cA : Nat → ClassId} {ad : Nat → Nat} (hr : va_Run p l e R s m args below meth c H locs cells slots mc ms (F0 m pc ls st0) rest (g_Qc N P D cA ad A1 a) free) (hS : va_S A0 H0 H locs) (hA : ∀ q, q < H.size → A1 q → A0 q) (hf : ∀ q, free q → A0 q)
    (kk : ∀ (N1 : Nat) (M1 : mM) (ad1 : Nat → Nat) (t : State) (H1 : Heap) (locs1 : List Loc), t.heap = H1 → (∀ k, k < N → ad1 k = ad k) → P N1 M1 → wfM N1 M1 → e_B N1 D cA ad1 A1 M1 t → va_S A0 H0 H1 locs1 → W p l e R s m args below meth c H1 locs1 (cells + mc) (slots + ms) Q (F0 m (pc + 3) ls rest)) : W p l e R s m args below meth c H locs cells slots Q (F0 m pc ls st0) := by
  intro T hT X
  obtain ⟨v, st₀, t, T', L, h0, X', hL, e1, e2, ⟨⟨N1, M1, ad1, hv, hag, hp, hw, hb⟩, hz, hk⟩, st⟩ := hr T hT X
  cases hv
  rw [h0] at hz hk
  obtain ⟨t2, a1, b1⟩ := kk N1 M1 ad1 t T'.heap (locs ++ L) e1.symm hag hp hw hb
    ⟨Nat.le_trans hS.1 (by rw [e1]; exact hz), fun q h1 h2 => by rw [e1, hk q (Nat.lt_of_lt_of_le h1 hS.1) (fun z => h2 (hA q (Nat.lt_of_lt_of_le h1 hS.1) z))]; exact hS.2.1 q h1 h2, fun q hq => by
      rcases List.mem_append.mp hq with h | h
      · exact hS.2.2 q h
      · exact hf _ (hL q h)⟩ T' rfl X'
  exact ⟨t2, st t2 a1, b1⟩
end GVC
section GVS
variable {N d nc ns : Nat} {μ μ1 : mI} {pc : Nat} {L S : List Value} {M : mM} {P : Nat → mM → Prop}
theorem gv_wf (k : wfM N M → Gv N d nc ns μ pc L S M P) : Gv N d nc ns μ pc L S M P := by
  intro p l e R s m args below meth c Q A D cA ad cB sB hE w1 w2 w3
  exact k w1 p l e R s m args below meth c Q A D cA ad cB sB hE w1 w2 w3
theorem gv_goto {off : Int} (tgt : Nat) (h : decode μ.2.1 pc = .ok (.goto off, 3)) (ht : (pc : Int) + off = (tgt : Int)) (k : Gv N d nc ns μ tgt L S M P) : Gv N d nc ns μ pc L S M P := by
  intro p l e R s m args below meth c Q A D cA ad cB sB hE w1 w2 w3 H locs ls cells slots h1 h2 hP hD hS hl
  exact lv_goto hE.1 hE.2.1 h ht (k _ _ _ _ _ _ _ _ _ _ _ _ _ _ _ _ _ hE w1 w2 w3 H locs ls cells slots h1 h2 hP hD hS hl)
theorem gv_icmp_geN {a b : Nat} {off : Int} (tgt : Nat) (h : decode μ.2.1 pc = .ok (.if_icmp .ge off, 3)) (ht : (pc : Int) + off = (tgt : Int)) (ha : a < 2 ^ 31) (hb : b < 2 ^ 31) (kt : b ≤ a → Gv N d nc ns μ tgt L S M P) (kf : a < b → Gv N d nc ns μ (pc + 3) L S M P) : Gv N d nc ns μ pc L (.int (nI b) :: .int (nI a) :: S) M P := by
  intro p l e R s m args below meth c Q A D cA ad cB sB hE w1 w2 w3 H locs ls cells slots h1 h2 hP hD hS hl
  have w3 : wfL N S := fun v hv => w3 v (List.mem_cons_of_mem _ (List.mem_cons_of_mem _ hv))
  exact lv_icmp_ge hE.1 hE.2.1 h ht (fun z => kt ((nI_leI hb ha).mp z) _ _ _ _ _ _ _ _ _ _ _ _ _ _ _ _ _ hE w1 w2 w3 H locs ls cells slots h1 h2 hP hD hS hl) (fun z => kf (Nat.lt_of_not_le (fun y => z ((nI_leI hb ha).mpr y))) _ _ _ _ _ _ _ _ _ _ _ _ _ _ _ _ _ hE w1 w2 w3 H locs ls cells slots h1 h2 hP hD hS hl)
theorem gv_iload_n {kk : Fin 4} {i : Nat} {x : Int32} (h : decode μ.2.1 pc = .ok (.iload_n kk, 1)) (hi : (kk : Nat) = i) (hL : L[i]? = some (.int x)) (k : Gv N d nc ns μ (pc + 1) L (.int x :: S) M P) : Gv N d nc ns μ pc L S M P := by
  intro p l e R s m args below meth c Q A D cA ad cB sB hE w1 w2 w3 H locs ls cells slots h1 h2 hP hD hS hl
  exact lv_iload_n hE.1 hE.2.1 h hi (hl.2.2 i _ hL (fun z => by cases z)) (k _ _ _ _ _ _ _ _ _ _ _ _ _ _ _ _ _ hE w1 w2 (wf_c (wf_i x) w3) H locs ls cells slots h1 h2 hP hD hS hl)
theorem wf_set {N i : Nat} {v : Value} {L : List Value} (hv : wfV N v) (h : wfL N L) : wfL N (L.set i v) := fun w hw => by
  rcases List.mem_or_eq_of_mem_set hw with z | z
  · exact h w z
  · rw [z]; exact hv
theorem gv_istore_n {kk : Fin 4} {i : Nat} {x : Int32} (h : decode μ.2.1 pc = .ok (.istore_n kk, 1)) (hi : (kk : Nat) = i) (hn : i < μ.2.2.1) (ho : e_okS L i = true) (k : Gv N d nc ns μ (pc + 1) (L.set i (.int x)) S M P) : Gv N d nc ns μ pc L (.int x :: S) M P := by
  intro p l e R s m args below meth c Q A D cA ad cB sB hE w1 w2 w3 H locs ls cells slots h1 h2 hP hD hS hl
  have w3 : wfL N S := fun v hv => w3 v (List.mem_cons_of_mem _ hv)
  exact lv_istore_n hE.1 hE.2.1 h hi hl.lv hn rfl (fun ls1 hl1 => k _ _ _ _ _ _ _ _ _ _ _ _ _ _ _ _ _ hE w1 (wf_set (wf_i x) w2) w3 H locs ls1 cells slots h1 h2 hP hD hS (e_R_st1 (v := .int x) hl1 ho))
theorem gv_incN {i a : Nat} (h : decode μ.2.1 pc = .ok (.iinc i 1, 3)) (hL : L[i]? = some (.int (nI a))) (hn : i < μ.2.2.1) (ho : e_okS L i = true) (k : Gv N d nc ns μ (pc + 3) (L.set i (.int (nI (a + 1)))) S M P) : Gv N d nc ns μ pc L S M P := by
  intro p l e R s m args below meth c Q A D cA ad cB sB hE w1 w2 w3 H locs ls cells slots h1 h2 hP hD hS hl
  obtain ⟨q, hq⟩ := List.getElem?_of_mem (e_l_in (ad := ad) hL (fun z => by cases z))
  exact lv_iinc hE.1 hE.2.1 h hl.lv hq (n_inc a) hn rfl (fun ls1 hl1 => k _ _ _ _ _ _ _ _ _ _ _ _ _ _ _ _ _ hE w1 (wf_set (wf_i _) w2) w3 H locs ls1 cells slots h1 h2 hP hD hS (e_R_st1 (v := .int (nI (a + 1))) hl1 ho))
theorem gv_getfield {idx ci j q : Nat} {fs : List Value} {v : Value} (h : decode μ.2.1 pc = .ok (.getfield idx, 3)) (hf : e_fld μ.1.cls idx ci j) (hk : q < N) (hM : M q = .inr (ci, fs)) (hv : fs[j]? = some v) (k : Gv N d nc ns μ (pc + 3) L (v :: S) M P) : Gv N d nc ns μ pc L (.ref q :: S) M P := by
  intro p l e R s m args below meth c Q A D cA ad cB sB hE w1 w2 w3 H locs ls cells slots h1 h2 hP hD hS hl
  have w3 : wfL N S := fun v hv => w3 v (List.mem_cons_of_mem _ hv)
  have wv : wfV N v := by
    have := w1 q hk
    rw [hM] at this
    exact this v (List.mem_of_getElem? hv)
  obtain ⟨hx, hb, hml, hown, hts, hN, hK, hA, hR, hi, hRet⟩ := id hE
  obtain ⟨r, hr, hj, hlk⟩ := hf
  obtain ⟨g1, -, g3⟩ := e_cls hr
  have hv1 : (fs.map (e_v ad))[j]? = some (e_v ad v) := by rw [List.getElem?_map, hv]; rfl
  rcases hlk with hlk | ⟨hst, hlk⟩
  · exact va_get (C := r.1) (T := r.2.1) (N := r.2.2) hx hb hts g1 hown hK hP q (e_w_atc hk hM) hr j hj (hts _ hlk) (fun _ z => z) hv1 h (k _ _ _ _ _ _ _ _ _ _ _ _ _ _ _ _ _ hE w1 w2 (wf_c wv w3) H locs ls cells slots h1 h2 hP hD hS hl)
  · exact va_getN (C := r.1) (T := r.2.1) (N := r.2.2) hx hb hts g1 hown hK hP q (e_w_atc hk hM) hr j hj (va_Nw.use rfl (hN _ hlk)) (fun _ z => z) hv1 h (k _ _ _ _ _ _ _ _ _ _ _ _ _ _ _ _ _ hE w1 w2 (wf_c wv w3) H locs ls cells slots h1 h2 hP hD hS hl)
theorem gv_putJ {idx ci j q : Nat} {fs : List Value} {x : Int64} (h : decode μ.2.1 pc = .ok (.putfield idx, 3)) (hf : e_fldw μ.1.cls idx ci j .long) (hk : q < N) (hM : M q = .inr (ci, fs)) (hjl : j < fs.length) (k : Gv N d nc ns μ (pc + 3) L S (mu M q (.inr (ci, fs.set j (.long x)))) P) : Gv N d nc ns μ pc L (.long x :: .ref q :: S) M P := by
  intro p l e R s m args below meth c Q A D cA ad cB sB hE w1 w2 w3 H locs ls cells slots h1 h2 hP hD hS hl
  obtain ⟨hx, hb, hml, hown, hts, hN, hK, hA, hR, hi, hRet⟩ := id hE
  obtain ⟨r, hr, hj, hlk, hfin, hty⟩ := hf
  obtain ⟨g1, ⟨ty0, g2⟩, g3⟩ := e_cls hr
  have w4 : wfL N S := fun v hv => w3 v (List.mem_cons_of_mem _ (List.mem_cons_of_mem _ hv))
  have wM : wfM N (mu M q (.inr (ci, fs.set j (.long x)))) := wfM_mu w1 (fun v hv => by
    rcases List.mem_or_eq_of_mem_set hv with z | z
    · have := w1 q hk
      rw [hM] at this
      exact this v z
    · rw [z]; exact wf_l x)
  have e0 : (e_w N ad cA M).set q (ad q, .inr (ci, (fs.map (e_v ad)).set j (.long x))) = e_w N ad cA (mu M q (.inr (ci, fs.set j (.long x)))) := by
    rw [← e_w_set]
    show _ = (e_w N ad cA M).set q (ad q, .inr (ci, (fs.set j (.long x)).map (e_v ad)))
    rw [List.map_set]
    rfl
  have hl9 : j < (fs.map (e_v ad)).length := by rw [List.length_map]; exact hjl
  rcases hlk with hlk | ⟨hst, hlk⟩
  · exact va_put (C := r.1) (T := r.2.1) (N := r.2.2) hx hb hts g1 ty0 g2 g3 hown hK hP hD hS q (e_w_atc hk hM) hr j hj (hts _ hlk) (fun _ z => z) hfin hty rfl rfl hl9 h (fun H1 locs1 hP1 hD1 hS1 => k _ _ _ _ _ _ _ _ _ _ _ _ _ _ _ _ _ hE wM w2 w4 H1 locs1 ls cells slots h1 h2 (e0 ▸ hP1) (e0 ▸ hD1) hS1 hl)
  · exact va_putN (C := r.1) (T := r.2.1) (N := r.2.2) hx hb hts g1 ty0 g2 g3 hown hK hP hD hS q (e_w_atc hk hM) hr j hj (va_Nw.use rfl (hN _ hlk)) (fun _ z => z) hfin hty rfl rfl hl9 h (fun H1 locs1 hP1 hD1 hS1 => k _ _ _ _ _ _ _ _ _ _ _ _ _ _ _ _ _ hE wM w2 w4 H1 locs1 ls cells slots h1 h2 (e0 ▸ hP1) (e0 ▸ hD1) hS1 hl)
theorem gv_put {idx ci j q x : Nat} {fs : List Value} (h : decode μ.2.1 pc = .ok (.putfield idx, 3)) (hf : e_fin μ.1.cls idx ci j) (hnm : μ.1.name = "<init>") (hk : q < N) (hM : M q = .inr (ci, fs)) (hjl : j < fs.length) (k : Gv N d nc ns μ (pc + 3) L S (mu M q (.inr (ci, fs.set j (.ref x)))) P) : Gv N d nc ns μ pc L (.ref x :: .ref q :: S) M P := by
  obtain ⟨r, ty, f1, f2, f3, f4, f5, f6, f7, f8⟩ := hf
  exact gv_putF h f1 f2 f3 f4 f5 hnm f6 f7 f8 hk hM hjl k
theorem gv_newc {idx ci n : Nat} {fs : List Value} (h : decode μ.2.1 pc = .ok (.new idx, 3)) (hc : e_cli μ.1.cls idx ci n) (hf : e_dfs ci fs) (k : Gv (N + 1) d nc ns μ (pc + 3) L (.ref N :: S) (mu M N (.inr (ci, fs))) P) : Gv N d (nc + 1) (ns + n) μ pc L S M P := by
  obtain ⟨r, c1, rfl, c3, c4, c5⟩ := hc
  obtain ⟨r', f1, f2, f3⟩ := hf
  have hrr : r' = r := Option.some.inj (f1.symm.trans c1)
  subst hrr
  exact gv_new h c1 c3 c4 c5 f2 (map_nr f3) (wf_nr f3) k
/-- a row of sheets comes as the next cell -/
theorem gv_newA {n idx : Nat} (h : decode μ.2.1 pc = .ok (.anewarray idx, 3)) (hcl : Cond.classLink μ.1.cls idx RX3 ∈ e_big) (hn : n < 2 ^ 20) (k : Gv (N + 1) d nc ns μ (pc + 3) L (.ref N :: S) (mu M N (.inl (2, n, .inr (fun _ => none)))) P) : Gv N d (nc + 1) (ns + n) μ pc L (.int (nI n) :: S) M P := by
  intro p l e R s m args below meth c Q A D cA ad cB sB hE w1 w2 w3 H locs ls cells slots h1 h2 hP hD hS hl
  obtain ⟨hx, hb, hml, hown, hts, hN, hK, hA, ⟨hR1, hR2, hR3, hR4⟩, hi, hRet⟩ := id hE
  have w3 : wfL N S := fun v hv => w3 v (List.mem_cons_of_mem _ hv)
  have wc : ∀ n1, wfC n1 (.inl (2, n, .inr (fun _ => none))) := fun n1 j k1 z => by cases z
  refine va_newq (C := RX3) hx hb hown (hts _ hcl) hi.2 hK hP hD hS hA (n_lt0 (by omega)) (n_cl (by omega)) (by omega) (by omega) (by omega) h (fun q cA1 H1 hK1 hP1 hD1 hS1 => ?_)
  have hc0 : cA1 = cA 2 := by
    obtain ⟨kA, comp, x1, x2, x3, x4⟩ := (hK1.2 3 (cA1, .object RX3) rfl).2
    obtain ⟨kB, comq, y1, y2, y3, y4⟩ := (hK.2 2 (cA 2, .object RX3) rfl).2
    exact Option.some.inj (x4.symm.trans y4)
  subst hc0
  have ew := e_w_new (q := q) (ad := ad) (cA := cA) (x := .inl (2, n, .inr (fun _ => none))) w1 (wc N)
  have ha : ∀ k, k < N → (fun k => if k = N then q else ad k) k = ad k := fun k hk => if_neg (by omega)
  have hP2 : va_P D vwCl (e_w (N + 1) (fun k => if k = N then q else ad k) cA (mu M N (.inl (2, n, .inr (fun _ => none))))) H1 := by rw [← ew]; exact hP1
  have hD2 : va_D A (e_w (N + 1) (fun k => if k = N then q else ad k) cA (mu M N (.inl (2, n, .inr (fun _ => none))))) := by rw [← ew]; exact hD1
  have e2 : (Value.ref N :: S).map (e_v (fun k => if k = N then q else ad k)) = .ref q :: S.map (e_v ad) := by
    rw [List.map_cons, e_S_ag w3 ha]
    show Value.ref (if N = N then q else ad N) :: _ = _
    rw [if_pos rfl]
  have r := k p l e R s m args below meth c Q A D cA _ cB sB (g_env_up hE (Nat.le_succ N) ha) (wfM_new w1 (wc _)) (wfL_up w2 (Nat.le_succ N)) (wf_c (wf_rN N) (wfL_up w3 (Nat.le_succ N))) H1 locs ls (cells + 1) (slots + n) (by omega) (by omega) hP2 hD2 hS1 (e_R_ag hl w2 ha)
  rw [e2] at r
  exact r
theorem gv_aast {x a n i : Nat} {g : Nat → Option Nat} {vs : List Value} (h : decode μ.2.1 pc = .ok (.aastore, 1)) (ha : a < N) (hx : x < N) (hMa : M a = .inl (2, n, .inr g)) (hMx : M x = .inr (3, vs)) (hi : i < n) (hn : n < 2 ^ 20) (k : Gv N d nc ns μ (pc + 1) L S (mu M a (.inl (2, n, .inr (va_up g i (some x))))) P) : Gv N d nc ns μ pc L (.ref x :: .int (nI i) :: .ref a :: S) M P := by
  intro p l e R s m args below meth c Q A D cA ad cB sB hE w1 w2 w3 H locs ls cells slots h1 h2 hP hD hS hl
  obtain ⟨hx0, hb, hml, hown, hts, hN, hK, hA, ⟨hR1, hR2, hR3, hR4⟩, hi0, hRet⟩ := id hE
  have w4 : wfL N S := fun v hv => w3 v (List.mem_cons_of_mem _ (List.mem_cons_of_mem _ (List.mem_cons_of_mem _ hv)))
  have hcl : (nI i).toNatClampNeg = i := n_cl (by omega)
  have wM : wfM N (mu M a (.inl (2, n, .inr (va_up g i (some x))))) := wfM_mu w1 (fun j k1 z => by
    by_cases q : j = i
    · rw [q, va_up_self] at z
      cases z
      exact hx
    · rw [va_up_ne _ _ q] at z
      have := w1 a ha
      rw [hMa] at this
      exact this j k1 z)
  have ef : va_up (fun j => (g j).map ad) i (some (ad x)) = fun j => (va_up g i (some x) j).map ad := by
    funext j
    by_cases q : j = i
    · rw [q, va_up_self, va_up_self]; rfl
    · rw [va_up_ne _ _ q, va_up_ne _ _ q]
  have e0 : (e_w N ad cA M).set a (ad a, .inl (cA 2, n, .inr (.inr (.inr (.inr (va_up (fun j => (g j).map ad) i (some (ad x)))))))) = e_w N ad cA (mu M a (.inl (2, n, .inr (va_up g i (some x))))) := by
    rw [← e_w_set, ef]
    rfl
  refine va_astq (r := (RX3, TX3, 3)) hx0 hb hK hP hD hS a 2 x 3 (e_w_atc ha hMa) rfl (e_w_atc hx hMx) rfl (i := nI i) ?_ h (fun H1 locs1 hP1 hD1 hS1 => ?_)
  · intro z
    rcases z with z | z
    · exact n_lt0 (by omega) z
    · rw [hcl] at z; omega
  · rw [hcl, e0] at hP1 hD1
    exact k _ _ _ _ _ _ _ _ _ _ _ _ _ _ _ _ _ hE wM w2 w4 H1 locs1 ls cells slots h1 h2 hP1 hD1 hS1 hl
/-- a constructor called -/
theorem gv_invI {idx q mc ms : Nat} (h : decode μ.2.1 pc = .ok (.invokespecial idx, 3)) (hs : e_site μ.1.cls idx μ1.1) (ho : e_okI μ1) (hk : q < N) (hw : (S.map fun v => v.category).sum ≤ 8)
    (k : Gv N d mc ms μ1 0 (e_ent μ1.2.2.1 [.ref q]) [] M (fun N1 M1 => N ≤ N1 ∧ Gv N1 (d + 1) nc ns μ (pc + 3) L S M1 P)) : Gv N (d + 1) (nc + mc) (ns + ms) μ pc L (.ref q :: S) M P := by
  intro p l e R s m args below meth c Q A D cA ad cB sB hE w1 w2 w3 H locs ls cells slots h1 h2 hP hD hS hl
  obtain ⟨hx, hb, hml, hown, hts, hN, hK, hA, ⟨hR1, hR2, hR3, hR4⟩, hi, hRet⟩ := id hE
  obtain ⟨⟨o1, o2, o3, ⟨o4, o4'⟩, o5⟩, ⟨o6, o6'⟩, o7⟩ := ho
  have w3 : wfL N S := fun v hv => w3 v (List.mem_cons_of_mem _ hv)
  have hM1 := g_met w1 hk o5 o4 k l D cA ad H.size
  have hFc : ∀ q, va_A (e_w N ad cA M) H.size q → A q := fun q hq => by
    rcases hq with ⟨k1, e1, hq⟩ | hq
    · exact hD.2 k1 _ hq
    · exact hA q (Nat.le_trans hS.1 hq)
  have hpre : ∀ U : State, U.heap = H → s.WarmedH U.vm → va_Pc ([Value.ref q].map (e_v ad)) (g_pre N D cA ad M H.size) (Value.ref (ad q) :: ([] : List Value)).toArray U := fun U hU hW => ⟨rfl, ⟨by rw [hU], by rw [hU]; exact hP, va_K.moved hW.alike hK, hD.weaken (fun _ _ _ _ => trivial), e_nst_warm hW hN⟩, va_AO.moved hW.alike hi.2⟩
  have hcod : Cond.code μ1.1 μ1.2.1 μ1.2.2.1 μ1.2.2.2 ∈ e_big := by rw [o6']; exact o1
  have hwsE : e_ws μ1 = Cond.code μ1.1 μ1.2.1 μ1.2.2.1 none :: e_big := by unfold e_ws; rw [o6']
  have hroom : (g_rm d mc ms).frames + 1 ≤ R.frames ∧ 8 + (μ1.2.2.1 + 11) + (g_rm d mc ms).locals ≤ R.locals := by
    refine ⟨hR1, ?_⟩
    show 8 + (μ1.2.2.1 + 11) + 33 * d ≤ R.locals
    omega
  have run : va_Run p l e R s m args below meth c H locs cells slots mc ms (F0 m pc ls ((Value.ref q :: S).map (e_v ad))) (S.map (e_v ad)) (g_Qc N (fun N1 M1 => N ≤ N1 ∧ Gv N1 (d + 1) nc ns μ (pc + 3) L S M1 P) D cA ad (va_A (e_w N ad cA M) H.size) (Value.ref (ad q) :: ([] : List Value)).toArray) (va_A (e_w N ad cA M) H.size) := by
    rcases hs with hs | ⟨host, hs⟩
    · exact va_runI (As := []) (rest := S.map (e_v ad)) (n := 0) (g := F0 m pc ls ((Value.ref q :: S).map (e_v ad))) ⟨hx, hb, hml, hown, hts⟩ hM1 ⟨callB_of 0 hts (e_goodIn hcod) hwsE rfl rfl (hts _ o2) (hts _ hs) o3 hroom, o6, hts _ o7⟩ ⟨g_pre_blind _, hpre⟩ rfl rfl hl.1 rfl (lv_room (by rw [e_wt]; exact hw)) h ⟨by omega, by omega⟩
    · exact va_runIN (As := []) (rest := S.map (e_v ad)) (n := 0) (g := F0 m pc ls ((Value.ref q :: S).map (e_v ad))) ⟨hx, hb, hml, hown, hts⟩ hM1 ⟨va_cnB 0 hts (e_goodIn hcod) hwsE rfl rfl (hN _ hs) (hts _ o2) o3 hroom, o6, hts _ o7⟩ ⟨g_pre_blind _, hpre⟩ rfl rfl hl.1 rfl (lv_room (by rw [e_wt]; exact hw)) h ⟨by omega, by omega⟩
  refine g_call run hS (fun q _ z => hFc q z) hFc (fun N1 M1 ad1 t H1 locs1 ht hag hp hw1 hB hS1 => ?_)
  obtain ⟨b1, b2, b3⟩ := hB
  rw [ht] at b1
  obtain ⟨hnn, hp⟩ := hp
  rw [← e_S_ag w3 hag]
  exact hp p l e R s m args below meth c Q A D cA ad1 cB sB (g_env_up hE hnn hag) hw1 (wfL_up w2 hnn) (wfL_up w3 hnn) H1 locs1 ls (cells + mc) (slots + ms) (by omega) (by omega) b1 (b3.weaken (fun _ q _ z => hFc _ z)) hS1 (e_R_ag hl w2 hag)
/-- a method called that makes nothing -/
theorem gv_V0 {idx q ci : Nat} {fs : List Value} (h : decode μ.2.1 pc = .ok (.invokevirtual idx, 3)) (hs : e_site μ.1.cls idx μ1.1) (ho : e_okVi μ1 0 ci) (hk : q < N) (hM : M q = .inr (ci, fs)) (hw : (S.map fun v => v.category).sum ≤ 8) (hf : (e_sp [.ref q]).length ≤ μ1.2.2.1)
    (k : Ev N d μ1 none 0 (e_ent μ1.2.2.1 [.ref q]) [] M (fun r1 M1 => r1 = none ∧ wfM N M1 ∧ Gv N (d + 1) nc ns μ (pc + 3) L S M1 P)) : Gv N (d + 1) nc ns μ pc L (.ref q :: S) M P := by
  intro p l e R s m args below meth c Q A D cA ad cB sB hE w1 w2 w3 H locs ls cells slots h1 h2 hP hD hS hl
  obtain ⟨hx, hb, hml, hown, hts, hN, hK, hA, ⟨hR1, hR2, hR3, hR4⟩, hi, hRet⟩ := id hE
  obtain ⟨⟨⟨o1, o2, o3, o4, o5⟩, o6, o7⟩, r, hc, hcn⟩ := ho
  have w3 : wfL N S := fun v hv => w3 v (List.mem_cons_of_mem _ hv)
  have hM1 := ev_met o5 hf k l D cA ad H.size
  have hFc : ∀ q, va_A (e_w N ad cA M) H.size q → A q := fun q hq => by
    rcases hq with ⟨k1, e1, hq⟩ | hq
    · exact hD.2 k1 _ hq
    · exact hA q (Nat.le_trans hS.1 hq)
  have hpre : ∀ U : State, U.heap = H → s.WarmedH U.vm → va_Pc ([Value.ref q].map (e_v ad)) (e_pre N D cA ad M H.size) (Value.ref (ad q) :: ([] : List Value)).toArray U := fun U hU hW => ⟨rfl, by rw [hU], by rw [hU]; exact hP, va_K.moved hW.alike hK, hD.weaken (fun _ _ _ _ => trivial), e_nst_warm hW hN⟩
  have hrc : ∃ cell : Cell, H[ad q]? = some cell ∧ cell.vm.isStatics = false ∧ s.vm.findClass μ1.1.cls = some cell.cls := by
    rw [← hcn]
    exact va_recv hK hP hc (e_w_atc hk hM)
  have hroom : (e_rm d).frames + 1 ≤ R.frames ∧ 8 + (μ1.2.2.1 + 11) + (e_rm d).locals ≤ R.locals := by
    refine ⟨hR1, ?_⟩
    show 8 + (μ1.2.2.1 + 11) + 33 * d ≤ R.locals
    omega
  have run : va_Run p l e R s m args below meth c H locs cells slots 0 0 (F0 m pc ls ((Value.ref q :: S).map (e_v ad))) (S.map (e_v ad)) (e_Qc N (fun r1 M1 => r1 = none ∧ wfM N M1 ∧ Gv N (d + 1) nc ns μ (pc + 3) L S M1 P) D cA ad (va_A (e_w N ad cA M) H.size) (Value.ref (ad q) :: ([] : List Value)).toArray) (va_A (e_w N ad cA M) H.size) := by
    rcases hs with hs | ⟨host, hs⟩
    · exact va_runV (As := []) (rest := S.map (e_v ad)) (n := 0) (C := μ1.1.cls) (g := F0 m pc ls ((Value.ref q :: S).map (e_v ad))) ⟨hx, hb, hml, hown, hts⟩ hM1 ⟨callB_of 0 hts (e_goodIn o1) rfl rfl rfl (hts _ o2) (hts _ hs) o3 hroom, hts _ o6, hts _ o7⟩ ⟨e_pre_blind _, hrc, hpre⟩ rfl rfl hl.1 rfl (lv_room (by rw [e_wt]; exact hw)) h ⟨by omega, by omega⟩
    · exact va_runVN (As := []) (rest := S.map (e_v ad)) (n := 0) (C := μ1.1.cls) (g := F0 m pc ls ((Value.ref q :: S).map (e_v ad))) ⟨hx, hb, hml, hown, hts⟩ hM1 ⟨va_cnB 0 hts (e_goodIn o1) rfl rfl rfl (hN _ hs) (hts _ o2) o3 hroom, hts _ o6, hts _ o7⟩ ⟨e_pre_blind _, hrc, hpre⟩ rfl rfl hl.1 rfl (lv_room (by rw [e_wt]; exact hw)) h ⟨by omega, by omega⟩
  refine e_call run hS (fun q _ z => hFc q z) hFc (fun r1 M1 t H1 locs1 ht hp hB hS1 => ?_)
  obtain ⟨b1, b2, b3⟩ := hB
  rw [ht] at b1
  obtain ⟨rfl, hw1, hp⟩ := hp
  exact hp p l e R s m args below meth c Q A D cA ad cB sB hE hw1 w2 w3 H1 locs1 ls cells slots h1 h2 b1 (b3.weaken (fun _ q _ z => hFc _ z)) hS1 hl
theorem gv_S1 {idx : Nat} {v1 : Value} (h : decode μ.2.1 pc = .ok (.invokestatic idx, 3)) (hs : e_site μ.1.cls idx μ1.1) (ho : e_okT μ1 1) (hw : (S.map fun v => v.category).sum ≤ 8) (hf : (e_sp [v1]).length ≤ μ1.2.2.1)
    (k : Ev N d μ1 none 0 (e_ent μ1.2.2.1 [v1]) [] M (fun r1 M1 => r1 = none ∧ wfM N M1 ∧ Gv N (d + 1) nc ns μ (pc + 3) L S M1 P)) : Gv N (d + 1) nc ns μ pc L (v1 :: S) M P := by
  intro p l e R s m args below meth c Q A D cA ad cB sB hE w1 w2 w3 H locs ls cells slots h1 h2 hP hD hS hl
  obtain ⟨hx, hb, hml, hown, hts, hN, hK, hA, ⟨hR1, hR2, hR3, hR4⟩, hi, hRet⟩ := id hE
  obtain ⟨⟨o1, o2, o3, o4, o5⟩, o6⟩ := ho
  have w3 : wfL N S := fun v hv => w3 v (List.mem_cons_of_mem _ hv)
  have hM1 := ev_met o5 hf k l D cA ad H.size
  have hFc : ∀ q, va_A (e_w N ad cA M) H.size q → A q := fun q hq => by
    rcases hq with ⟨k1, e1, hq⟩ | hq
    · exact hD.2 k1 _ hq
    · exact hA q (Nat.le_trans hS.1 hq)
  have hpre : ∀ U : State, U.heap = H → s.WarmedH U.vm → va_Pc ([v1].map (e_v ad)) (e_pre N D cA ad M H.size) ([v1].map (e_v ad)).toArray U := fun U hU hW => ⟨rfl, by rw [hU], by rw [hU]; exact hP, va_K.moved hW.alike hK, hD.weaken (fun _ _ _ _ => trivial), e_nst_warm hW hN⟩
  have hroom : (e_rm d).frames + 1 ≤ R.frames ∧ 8 + (μ1.2.2.1 + 11) + (e_rm d).locals ≤ R.locals := by
    refine ⟨hR1, ?_⟩
    show 8 + (μ1.2.2.1 + 11) + 33 * d ≤ R.locals
    omega
  have run : va_Run p l e R s m args below meth c H locs cells slots 0 0 (F0 m pc ls ((v1 :: S).map (e_v ad))) (S.map (e_v ad)) (e_Qc N (fun r1 M1 => r1 = none ∧ wfM N M1 ∧ Gv N (d + 1) nc ns μ (pc + 3) L S M1 P) D cA ad (va_A (e_w N ad cA M) H.size) ([v1].map (e_v ad)).toArray) (va_A (e_w N ad cA M) H.size) := by
    rcases hs with hs | ⟨host, hs⟩
    · exact va_runS (As := [v1].map (e_v ad)) (rest := S.map (e_v ad)) (n := 1) (g := F0 m pc ls ((v1 :: S).map (e_v ad))) ⟨hx, hb, hml, hown, hts⟩ hM1 ⟨callB_of 1 hts (e_goodIn o1) rfl rfl rfl (hts _ o2) (hts _ hs) o3 hroom, hts _ o6⟩ ⟨e_pre_blind _, hpre⟩ rfl rfl hl.1 rfl (lv_room (by rw [e_wt]; exact hw)) h ⟨by omega, by omega⟩
    · exact va_runSN (As := [v1].map (e_v ad)) (rest := S.map (e_v ad)) (n := 1) (g := F0 m pc ls ((v1 :: S).map (e_v ad))) ⟨hx, hb, hml, hown, hts⟩ hM1 ⟨va_cnB 1 hts (e_goodIn o1) rfl rfl rfl (hN _ hs) (hts _ o2) o3 hroom, hts _ o6, trivial⟩ ⟨e_pre_blind _, hpre⟩ rfl rfl hl.1 rfl (lv_room (by rw [e_wt]; exact hw)) h ⟨by omega, by omega⟩
  refine e_call run hS (fun q _ z => hFc q z) hFc (fun r1 M1 t H1 locs1 ht hp hB hS1 => ?_)
  obtain ⟨b1, b2, b3⟩ := hB
  rw [ht] at b1
  obtain ⟨rfl, hw1, hp⟩ := hp
  exact hp p l e R s m args below meth c Q A D cA ad cB sB hE hw1 w2 w3 H1 locs1 ls cells slots h1 h2 b1 (b3.weaken (fun _ q _ z => hFc _ z)) hS1 hl
end GVS
