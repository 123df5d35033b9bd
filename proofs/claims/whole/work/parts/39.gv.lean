/-! ===== a world that grows: constructors ===== -/
def wfV (N : Nat) (v : Value) : Prop := ∀ k, v = .ref k → k < N
def wfC (N : Nat) (c : mC) : Prop := match c with
  | .inl (_, _, .inl _) => True
  | .inl (_, _, .inr g) => ∀ j k, g j = some k → k < N
  | .inr (_, fs) => ∀ v ∈ fs, wfV N v
def wfM (N : Nat) (M : mM) : Prop := ∀ k, k < N → wfC N (M k)
def wfL (N : Nat) (L : List Value) : Prop := ∀ v ∈ L, wfV N v
theorem wfV_up {N N1 : Nat} {v : Value} (h : wfV N v) (hn : N ≤ N1) : wfV N1 v := fun k z => Nat.lt_of_lt_of_le (h k z) hn
theorem wfC_up {N N1 : Nat} {c : mC} (h : wfC N c) (hn : N ≤ N1) : wfC N1 c := by
  match c, h with
  | .inl (_, _, .inl _), _ => trivial
  | .inl (_, _, .inr g), h => exact fun j k z => Nat.lt_of_lt_of_le (h j k z) hn
  | .inr (_, fs), h => exact fun v hv => wfV_up (h v hv) hn
theorem wfL_up {N N1 : Nat} {L : List Value} (h : wfL N L) (hn : N ≤ N1) : wfL N1 L := fun v hv => wfV_up (h v hv) hn
theorem wfM_mu {N k : Nat} {M : mM} {x : mC} (h : wfM N M) (hx : wfC N x) : wfM N (mu M k x) := fun j hj => by
  by_cases z : j = k
  · rw [z, mu_s]; exact hx
  · rw [mu_n z]; exact h j hj
theorem wfM_new {N : Nat} {M : mM} {x : mC} (h : wfM N M) (hx : wfC (N + 1) x) : wfM (N + 1) (mu M N x) := fun j hj => by
  by_cases z : j = N
  · rw [z, mu_s]; exact hx
  · rw [mu_n z]; exact wfC_up (h j (by omega)) (by omega)
theorem e_v_ag {N : Nat} {ad ad1 : Nat → Nat} {v : Value} (hv : wfV N v) (ha : ∀ k, k < N → ad1 k = ad k) : e_v ad1 v = e_v ad v := by
  cases v with
  | ref k => show Value.ref (ad1 k) = Value.ref (ad k); rw [ha k (hv k rfl)]
  | _ => rfl
theorem e_c_ag {N : Nat} {ad ad1 : Nat → Nat} {cA : Nat → ClassId} {c : mC} (hv : wfC N c) (ha : ∀ k, k < N → ad1 k = ad k) : e_c ad1 cA c = e_c ad cA c := by
  match c, hv with
  | .inl (_, _, .inl _), _ => rfl
  | .inl (_, _, .inr g), h =>
    show (Sum.inl (_, _, .inr (.inr (.inr (.inr (fun j => (g j).map ad1))))) : va_E) = .inl (_, _, .inr (.inr (.inr (.inr (fun j => (g j).map ad)))))
    have : (fun j => (g j).map ad1) = fun j => (g j).map ad := by
      funext j
      cases q : g j with
      | none => rfl
      | some k => show some (ad1 k) = some (ad k); rw [ha k (h j k q)]
    rw [this]
  | .inr (_, fs), h =>
    show (Sum.inr (_, fs.map (e_v ad1)) : va_E) = .inr (_, fs.map (e_v ad))
    rw [List.map_congr_left (fun v hv => e_v_ag (h v hv) ha)]
theorem e_w_ag {N : Nat} {ad ad1 : Nat → Nat} {cA : Nat → ClassId} {M : mM} (hv : wfM N M) (ha : ∀ k, k < N → ad1 k = ad k) : e_w N ad1 cA M = e_w N ad cA M := by
  unfold e_w
  exact List.map_congr_left (fun k hk => by rw [ha k (List.mem_range.mp hk), e_c_ag (hv k (List.mem_range.mp hk)) ha])
theorem e_w_new {N q : Nat} {ad : Nat → Nat} {cA : Nat → ClassId} {M : mM} {x : mC} (hv : wfM N M) (hx : wfC N x) : e_w N ad cA M ++ [(q, e_c ad cA x)] = e_w (N + 1) (fun k => if k = N then q else ad k) cA (mu M N x) := by
  have ha : ∀ k, k < N → (fun k => if k = N then q else ad k) k = ad k := fun k hk => if_neg (by omega)
  rw [← e_w_ag hv ha, ← e_c_ag (cA := cA) hx ha]
  unfold e_w
  rw [List.range_succ, List.map_append]
  congr 1
  · exact List.map_congr_left (fun k hk => by rw [mu_n (by have := List.mem_range.mp hk; omega)])
  · show _ = [((fun k => if k = N then q else ad k) N, e_c _ cA (mu M N x N))]
    rw [mu_s, show (fun k => if k = N then q else ad k) N = q from if_pos rfl]
theorem e_R_ag {N n : Nat} {ad ad1 : Nat → Nat} {ls : Array Slot} {L : List Value} (h : e_R ls n ad L) (hv : wfL N L) (ha : ∀ k, k < N → ad1 k = ad k) : e_R ls n ad1 L := ⟨h.1, h.2.1, fun i v hi hn => by rw [e_v_ag (hv v (List.mem_of_getElem? hi)) ha]; exact h.2.2 i v hi hn⟩
theorem e_S_ag {N : Nat} {ad ad1 : Nat → Nat} {S : List Value} (hv : wfL N S) (ha : ∀ k, k < N → ad1 k = ad k) : S.map (e_v ad1) = S.map (e_v ad) := List.map_congr_left (fun v h => e_v_ag (hv v h) ha)
def g_env (N d : Nat) (μ : mI) (P : Nat → mM → Prop) (p : Program) (l : Launch) (e : Env) (R : Room) (s : State) (m : MethodId) (args : Array Value) (below : List Frame) (meth : Method) (c : Code) (Q : State → Prop) (A : Nat → Prop) (D : va_G) (cA : Nat → ClassId) (ad : Nat → Nat) (cB sB : Nat) : Prop :=
  p.tables.exec = Jvm.exec ∧ c.code = μ.2.1 ∧ c.maxLocals = μ.2.2.1 ∧ s.vm.findClass μ.1.cls = some m.cls ∧ (∀ w ∈ e_big, w.before args s = true) ∧ (∀ w ∈ e_nst, va_Nw w s) ∧ va_K D vwCl (e_tys cA) s ∧ (∀ q : Nat, s.heap.size ≤ q → A q) ∧ (d ≤ R.frames ∧ 33 * d ≤ R.locals ∧ cB ≤ R.cells ∧ sB ≤ R.slots) ∧ ((μ.1.name = "<init>" → meth.name = "<init>") ∧ va_AO RX3 s) ∧
  ∀ (N1 : Nat) (M1 : mM) (ad1 : Nat → Nat) (H1 : Heap) (locs1 : List Loc) (ls1 : Array Slot) (pc1 cells slots : Nat), (∀ k, k < N → ad1 k = ad k) → cells ≤ cB → slots ≤ sB → P N1 M1 → wfM N1 M1 → e_ret μ pc1 none → va_P D vwCl (e_w N1 ad1 cA M1) H1 → va_D A (e_w N1 ad1 cA M1) → va_S A s.heap H1 locs1 → W p l e R s m args below meth c H1 locs1 cells slots Q (F0 m pc1 ls1 [])
def Gv (N d nc ns : Nat) (μ : mI) (pc : Nat) (L S : List Value) (M : mM) (P : Nat → mM → Prop) : Prop :=
  ∀ (p : Program) (l : Launch) (e : Env) (R : Room) (s : State) (m : MethodId) (args : Array Value) (below : List Frame) (meth : Method) (c : Code) (Q : State → Prop) (A : Nat → Prop) (D : va_G) (cA : Nat → ClassId) (ad : Nat → Nat) (cB sB : Nat), g_env N d μ P p l e R s m args below meth c Q A D cA ad cB sB → wfM N M → wfL N L → wfL N S → ∀ (H : Heap) (locs : List Loc) (ls : Array Slot) (cells slots : Nat), cells + nc ≤ cB → slots + ns ≤ sB → va_P D vwCl (e_w N ad cA M) H → va_D A (e_w N ad cA M) → va_S A s.heap H locs → e_R ls μ.2.2.1 ad L → W p l e R s m args below meth c H locs cells slots Q (F0 m pc ls (S.map (e_v ad)))
def g_Qc (N : Nat) (P : Nat → mM → Prop) (D : va_G) (cA : Nat → ClassId) (ad : Nat → Nat) (A : Nat → Prop) : Array Value → State → Outcome → State → Prop := fun _ st oc t => (∃ (N1 : Nat) (M1 : mM) (ad1 : Nat → Nat), oc = .returned none ∧ (∀ k, k < N → ad1 k = ad k) ∧ P N1 M1 ∧ wfM N1 M1 ∧ e_B N1 D cA ad1 A M1 t) ∧ va_F A st t
def g_pre (N : Nat) (D : va_G) (cA : Nat → ClassId) (ad : Nat → Nat) (M : mM) (sz : Nat) (U : State) : Prop := e_pre N D cA ad M sz U ∧ va_AO RX3 U
theorem g_pre_blind {N : Nat} {D : va_G} {cA : Nat → ClassId} {ad : Nat → Nat} {M : mM} {sz : Nat} (av : List Value) : FrameBlind (va_Pc av (g_pre N D cA ad M sz)) := fun a U g mk q => by
  obtain ⟨q0, ⟨q1, q2, q3, q4, q5⟩, q6⟩ := q
  exact ⟨q0, ⟨q1, q2, va_K.moved (u := U) (U := U.calling g mk a) (Vm.Alike.refl U.vm) q3, q4, e_nst_same (u := U) rfl q5⟩, va_AO.moved (u := U) (U := U.calling g mk a) (Vm.Alike.refl U.vm) q6⟩
def g_rm (d nc ns : Nat) : Room := { frames := d, cells := nc, slots := ns, locals := 33 * d }
set_option maxHeartbeats 4000000 in
theorem g_met {N d nc ns k : Nat} {μ : mI} {M : mM} {P : Nat → mM → Prop} (hwf : wfM N M) (hk : k < N) (hpl : plainName μ.1.cls = true) (hfit : 1 ≤ μ.2.2.1) (h : Gv N d nc ns μ 0 (e_ent μ.2.2.1 [.ref k]) [] M P) (l : Launch) (D : va_G) (cA : Nat → ClassId) (ad : Nat → Nat) (sz : Nat) :
    Met l μ.1 (e_ws μ) (g_rm d nc ns) (va_Pc ([Value.ref k].map (e_v ad)) (g_pre N D cA ad M sz)) (g_Qc N P D cA ad (va_A (e_w N ad cA M) sz)) nc ns (va_A (e_w N ad cA M) sz) := by
  refine Met.ofW (cc := μ.2.1) (maxL := μ.2.2.1) (ret := μ.2.2.2) hpl rfl ?_
  intro p e s m args' below meth c s₁ B hml hv
  obtain ⟨rfl, ⟨hsz, hP, hK, hD0, hN⟩, hO⟩ := hv
  have hx := B.exec
  have hb := B.bytes
  have hrt := B.returns
  have hts := atoms_spec (ws := e_ws μ) B.pre
  have hown : s.vm.findClass μ.1.cls = some m.cls := findClass_of_methodNamed B.named
  have hin := (name_of_methodNamed B.named B.method).1
  subst hsz
  have hD := hD0.self (sz := s.heap.size)
  rw [lg_entry_eq]
  refine h p l e _ s m _ below meth c _ (va_A (e_w N ad cA M) s.heap.size) D cA ad nc ns ⟨hx, hb, hml, hown, fun w hw => hts w (List.mem_cons_of_mem _ hw), hN, hK, fun q hq => Or.inr hq, ⟨Nat.le_refl _, Nat.le_refl _, Nat.le_refl _, Nat.le_refl _⟩, ⟨fun z => hin.trans z, hO⟩, ?_⟩ hwf (fun v hv => ?_) (fun v hv => absurd hv List.not_mem_nil) s.heap [] _ 0 0 (by omega) (by omega) hP hD va_S.rf (e_R_ent ad [.ref k] hfit)
  · intro N1 M1 ad1 H1 locs1 ls1 pc1 cells slots hag hc1 hs1 hp hw1 hr hP1 hD1 hS1
    refine W.widen (k := nc) (n := ns) hc1 hs1 ?_
    exact W.vret hx hb (hrt.trans hr.2) (fun t ht hW => ⟨⟨N1, M1, ad1, rfl, hag, hp, hw1, by rw [ht]; exact hP1, va_K.moved hW.alike hK, hD1⟩, hS1.F ht⟩) hS1.2.2 hr.1
  · unfold e_ent at hv
    rcases List.mem_append.mp hv with z | z
    · have z : v ∈ [Value.ref k] := z
      rw [List.mem_singleton.mp z]
      intro j hj
      cases hj
      exact hk
    · rw [(List.mem_replicate.mp z).2]
      intro j hj
      cases hj
section GVR
variable {N d nc ns : Nat} {μ : mI} {pc : Nat} {L S : List Value} {M : mM} {P : Nat → mM → Prop}
theorem wf_i {N : Nat} (x : Int32) : wfV N (.int x) := fun k z => by cases z
theorem wf_l {N : Nat} (x : Int64) : wfV N (.long x) := fun k z => by cases z
theorem wf_rN (N : Nat) : wfV (N + 1) (.ref N) := fun j z => by cases z; exact Nat.lt_succ_self N
theorem wf_c {N : Nat} {v : Value} {S : List Value} (h : wfV N v) (hs : wfL N S) : wfL N (v :: S) := fun w hw => by
  rcases List.mem_cons.mp hw with z | z
  · rw [z]; exact h
  · exact hs w z
theorem gv_aload0 {x : Nat} (h : decode μ.2.1 pc = .ok (.aload_n 0, 1)) (hL : L[0]? = some (.ref x)) (k : Gv N d nc ns μ (pc + 1) L (.ref x :: S) M P) : Gv N d nc ns μ pc L S M P := by
  intro p l e R s m args below meth c Q A D cA ad cB sB hE w1 w2 w3 H locs ls cells slots h1 h2 hP hD hS hl
  exact lv_aload_n hE.1 hE.2.1 h rfl (hl.2.2 0 _ hL (fun z => by cases z)) (k _ _ _ _ _ _ _ _ _ _ _ _ _ _ _ _ _ hE w1 w2 (wf_c (w2 _ (List.mem_of_getElem? hL)) w3) H locs ls cells slots h1 h2 hP hD hS hl)
theorem gv_bipush {n : Int} {v : Int32} (h : decode μ.2.1 pc = .ok (.bipush n, 2)) (hv : (Int8.ofInt n).toInt32 = v) (k : Gv N d nc ns μ (pc + 2) L (.int v :: S) M P) : Gv N d nc ns μ pc L S M P := by
  intro p l e R s m args below meth c Q A D cA ad cB sB hE w1 w2 w3 H locs ls cells slots h1 h2 hP hD hS hl
  exact lv_bipush hE.1 hE.2.1 h hv (k _ _ _ _ _ _ _ _ _ _ _ _ _ _ _ _ _ hE w1 w2 (wf_c (wf_i v) w3) H locs ls cells slots h1 h2 hP hD hS hl)
theorem gv_ret0 (h : decode μ.2.1 pc = .ok (.return_, 1)) (hr : μ.2.2.2 = none) (hp : P N M) : Gv N d nc ns μ pc L [] M P := by
  intro p l e R s m args below meth c Q A D cA ad cB sB hE w1 w2 w3 H locs ls cells slots h1 h2 hP hD hS hl
  obtain ⟨hx, hb, hml, hown, hts, hN, hK, hA, hR, hi, hRet⟩ := id hE
  exact hRet N M ad H locs ls pc cells slots (fun _ _ => rfl) (by omega) (by omega) hp w1 ⟨h, hr⟩ hP hD hS
theorem g_env_up {p : Program} {l : Launch} {e : Env} {R : Room} {s : State} {m : MethodId} {args : Array Value} {below : List Frame} {meth : Method} {c : Code} {Q : State → Prop} {A : Nat → Prop} {D : va_G} {cA : Nat → ClassId} {ad ad1 : Nat → Nat} {cB sB N1 : Nat} (hE : g_env N d μ P p l e R s m args below meth c Q A D cA ad cB sB) (hn : N ≤ N1) (ha : ∀ k, k < N → ad1 k = ad k) : g_env N1 d μ P p l e R s m args below meth c Q A D cA ad1 cB sB := by
  obtain ⟨hx, hb, hml, hown, hts, hN, hK, hA, hR, hi, hRet⟩ := hE
  exact ⟨hx, hb, hml, hown, hts, hN, hK, hA, hR, hi, fun N2 M2 ad2 H1 locs1 ls1 pc1 cells slots hag => hRet N2 M2 ad2 H1 locs1 ls1 pc1 cells slots (fun k hk => (hag k (by omega)).trans (ha k hk))⟩
theorem gv_iconst {n : Int} {v : Int32} (h : decode μ.2.1 pc = .ok (.iconst n, 1)) (hv : Int32.ofInt n = v) (k : Gv N d nc ns μ (pc + 1) L (.int v :: S) M P) : Gv N d nc ns μ pc L S M P := by
  intro p l e R s m args below meth c Q A D cA ad cB sB hE w1 w2 w3 H locs ls cells slots h1 h2 hP hD hS hl
  exact lv_iconst hE.1 hE.2.1 h hv (k _ _ _ _ _ _ _ _ _ _ _ _ _ _ _ _ _ hE w1 w2 (wf_c (wf_i v) w3) H locs ls cells slots h1 h2 hP hD hS hl)
theorem gv_sipush {n : Int} {v : Int32} (h : decode μ.2.1 pc = .ok (.sipush n, 3)) (hv : (Int16.ofInt n).toInt32 = v) (k : Gv N d nc ns μ (pc + 3) L (.int v :: S) M P) : Gv N d nc ns μ pc L S M P := by
  intro p l e R s m args below meth c Q A D cA ad cB sB hE w1 w2 w3 H locs ls cells slots h1 h2 hP hD hS hl
  exact lv_sipush hE.1 hE.2.1 h hv (k _ _ _ _ _ _ _ _ _ _ _ _ _ _ _ _ _ hE w1 w2 (wf_c (wf_i v) w3) H locs ls cells slots h1 h2 hP hD hS hl)
theorem gv_lconst {n : Fin 2} {v : Int64} (h : decode μ.2.1 pc = .ok (.lconst n, 1)) (hv : Int64.ofNat (n : Nat) = v) (k : Gv N d nc ns μ (pc + 1) L (.long v :: S) M P) : Gv N d nc ns μ pc L S M P := by
  intro p l e R s m args below meth c Q A D cA ad cB sB hE w1 w2 w3 H locs ls cells slots h1 h2 hP hD hS hl
  exact lv_lconst hE.1 hE.2.1 h hv (k _ _ _ _ _ _ _ _ _ _ _ _ _ _ _ _ _ hE w1 w2 (wf_c (wf_l v) w3) H locs ls cells slots h1 h2 hP hD hS hl)
theorem gv_dup {v : Value} (h : decode μ.2.1 pc = .ok (.dup, 1)) (hv : v.category = 1) (k : Gv N d nc ns μ (pc + 1) L (v :: v :: S) M P) : Gv N d nc ns μ pc L (v :: S) M P := by
  intro p l e R s m args below meth c Q A D cA ad cB sB hE w1 w2 w3 H locs ls cells slots h1 h2 hP hD hS hl
  exact lv_dup hE.1 hE.2.1 h ((e_v_cat ad v).trans hv) (k _ _ _ _ _ _ _ _ _ _ _ _ _ _ _ _ _ hE w1 w2 (wf_c (w3 v List.mem_cons_self) w3) H locs ls cells slots h1 h2 hP hD hS hl)
/-- an int row comes as the next cell -/
theorem gv_newI {n : Nat} (h : decode μ.2.1 pc = .ok (.newarray .int, 2)) (hw : Cond.arrayClass .int ∈ e_big) (hn : n < 2 ^ 20) (k : Gv (N + 1) d nc ns μ (pc + 2) L (.ref N :: S) (mu M N (.inl (0, n, .inl (fun _ => 0)))) P) : Gv N d (nc + 1) (ns + n) μ pc L (.int (nI n) :: S) M P := by
  intro p l e R s m args below meth c Q A D cA ad cB sB hE w1 w2 w3 H locs ls cells slots h1 h2 hP hD hS hl
  obtain ⟨hx, hb, hml, hown, hts, hN, hK, hA, ⟨hR1, hR2, hR3, hR4⟩, hi, hRet⟩ := id hE
  have w3 : wfL N S := fun v hv => w3 v (List.mem_cons_of_mem _ hv)
  refine va_newa (atype := .int) (a0 := (n, .inl (fun _ => 0))) hx hb (hts _ hw) (ty := .int) rfl hK hP hD hS hA (fun _ => rfl) (n_lt0 (by omega)) (n_cl (by omega)) (by show n * 4 ≤ 536870912; omega) (by omega) (by omega) h (fun q cA1 H1 hK1 hP1 hD1 hS1 => ?_)
  have hc0 : cA1 = cA 0 := by
    have r1 := (hK1.2 3 (cA1, .int) rfl).2
    have r0 := (hK.2 0 (cA 0, .int) rfl).2
    exact Option.some.inj (r1.symm.trans r0)
  subst hc0
  have ew := e_w_new (q := q) (ad := ad) (cA := cA) (x := .inl (0, n, .inl (fun _ => 0))) w1 trivial
  have ha : ∀ k, k < N → (fun k => if k = N then q else ad k) k = ad k := fun k hk => if_neg (by omega)
  have hP2 : va_P D vwCl (e_w (N + 1) (fun k => if k = N then q else ad k) cA (mu M N (.inl (0, n, .inl (fun _ => 0))))) H1 := by rw [← ew]; exact hP1
  have hD2 : va_D A (e_w (N + 1) (fun k => if k = N then q else ad k) cA (mu M N (.inl (0, n, .inl (fun _ => 0))))) := by rw [← ew]; exact hD1
  have e2 : (Value.ref N :: S).map (e_v (fun k => if k = N then q else ad k)) = .ref q :: S.map (e_v ad) := by
    rw [List.map_cons, e_S_ag w3 ha]
    show Value.ref (if N = N then q else ad N) :: _ = _
    rw [if_pos rfl]
  have r := k p l e R s m args below meth c Q A D cA _ cB sB (g_env_up hE (Nat.le_succ N) ha) (wfM_new w1 trivial) (wfL_up w2 (Nat.le_succ N)) (wf_c (wf_rN N) (wfL_up w3 (Nat.le_succ N))) H1 locs ls (cells + 1) (slots + n) (by omega) (by omega) hP2 hD2 hS1 (e_R_ag hl w2 ha)
  rw [e2] at r
  exact r
/-- a boolean row comes as the next cell -/
theorem gv_newZ {n : Nat} (h : decode μ.2.1 pc = .ok (.newarray .boolean, 2)) (hw : Cond.arrayClass .boolean ∈ e_big) (hn : n < 2 ^ 20) (k : Gv (N + 1) d nc ns μ (pc + 2) L (.ref N :: S) (mu M N (.inl (1, n, .inl (fun _ => 0)))) P) : Gv N d (nc + 1) (ns + n) μ pc L (.int (nI n) :: S) M P := by
  intro p l e R s m args below meth c Q A D cA ad cB sB hE w1 w2 w3 H locs ls cells slots h1 h2 hP hD hS hl
  obtain ⟨hx, hb, hml, hown, hts, hN, hK, hA, ⟨hR1, hR2, hR3, hR4⟩, hi, hRet⟩ := id hE
  have w3 : wfL N S := fun v hv => w3 v (List.mem_cons_of_mem _ hv)
  refine va_newa (atype := .boolean) (a0 := (n, .inl (fun _ => 0))) hx hb (hts _ hw) (ty := .boolean) rfl hK hP hD hS hA (fun _ => rfl) (n_lt0 (by omega)) (n_cl (by omega)) (by show n * 1 ≤ 536870912; omega) (by omega) (by omega) h (fun q cA1 H1 hK1 hP1 hD1 hS1 => ?_)
  have hc0 : cA1 = cA 1 := by
    have r1 := (hK1.2 3 (cA1, .boolean) rfl).2
    have r0 := (hK.2 1 (cA 1, .boolean) rfl).2
    exact Option.some.inj (r1.symm.trans r0)
  subst hc0
  have ew := e_w_new (q := q) (ad := ad) (cA := cA) (x := .inl (1, n, .inl (fun _ => 0))) w1 trivial
  have ha : ∀ k, k < N → (fun k => if k = N then q else ad k) k = ad k := fun k hk => if_neg (by omega)
  have hP2 : va_P D vwCl (e_w (N + 1) (fun k => if k = N then q else ad k) cA (mu M N (.inl (1, n, .inl (fun _ => 0))))) H1 := by rw [← ew]; exact hP1
  have hD2 : va_D A (e_w (N + 1) (fun k => if k = N then q else ad k) cA (mu M N (.inl (1, n, .inl (fun _ => 0))))) := by rw [← ew]; exact hD1
  have e2 : (Value.ref N :: S).map (e_v (fun k => if k = N then q else ad k)) = .ref q :: S.map (e_v ad) := by
    rw [List.map_cons, e_S_ag w3 ha]
    show Value.ref (if N = N then q else ad N) :: _ = _
    rw [if_pos rfl]
  have r := k p l e R s m args below meth c Q A D cA _ cB sB (g_env_up hE (Nat.le_succ N) ha) (wfM_new w1 trivial) (wfL_up w2 (Nat.le_succ N)) (wf_c (wf_rN N) (wfL_up w3 (Nat.le_succ N))) H1 locs ls (cells + 1) (slots + n) (by omega) (by omega) hP2 hD2 hS1 (e_R_ag hl w2 ha)
  rw [e2] at r
  exact r
/-- Object's own constructor -/
theorem gv_obj {x idx : Nat} (h : decode μ.2.1 pc = .ok (.invokespecial idx, 3)) (hl0 : Cond.methodLink μ.1.cls idx Lib.objectInit ∈ e_big) (hi0 : Cond.instanceMethod Lib.objectInit ∈ e_big) (hc0 : Cond.code Lib.objectInit ⟨#[0xb1]⟩ 1 none ∈ e_big) (hd : 1 ≤ d) (hw : (S.map fun v => v.category).sum ≤ 8) (k : Gv N d nc ns μ (pc + 3) L S M P) : Gv N d nc ns μ pc L (.ref x :: S) M P := by
  intro p l e R s m args below meth c Q A D cA ad cB sB hE w1 w2 w3 H locs ls cells slots h1 h2 hP hD hS hl
  obtain ⟨hx, hb, hml, hown, hts, hN, hK, hA, ⟨hR1, hR2, hR3, hR4⟩, hi, hRet⟩ := id hE
  have r := k p l e R s m args below meth c Q A D cA ad cB sB hE w1 w2 (fun v hv => w3 v (List.mem_cons_of_mem _ hv)) H locs ls cells slots h1 h2 hP hD hS hl
  have hroom : 2 * 0 + ((S.map (e_v ad)).map fun v => v.category).sum + 12 ≤ R.locals := by rw [e_wt]; omega
  exact W.objInit hx hb hown (hts _ hl0) (hts _ hi0) (hts _ hc0) (g := F0 m pc ls (.ref (ad x) :: S.map (e_v ad))) rfl (hl.1.trans hml.symm) rfl h (by omega) hroom r
/-- a new object comes as the next cell -/
theorem gv_new {idx ci : Nat} {r : vw_C} {fs : List Value} (h : decode μ.2.1 pc = .ok (.new idx, 3)) (hr : vwCl[ci]? = some r) (hcl : Cond.classLink μ.1.cls idx r.1 ∈ e_big) (hin : Cond.instantiable r.1 r.2.2 ∈ e_big) (hini : Cond.initialized r.1 ∈ e_big) (hfs : ∀ j, j < r.2.2 → ∀ ty, parseFieldDescriptor (r.2.1 j).2.2.1 = some ty → defaultValue ty = vp_V fs j) (hnr : ∀ ad, fs.map (e_v ad) = fs) (hwf : wfC N (.inr (ci, fs))) (k : Gv (N + 1) d nc ns μ (pc + 3) L (.ref N :: S) (mu M N (.inr (ci, fs))) P) : Gv N d (nc + 1) (ns + r.2.2) μ pc L S M P := by
  intro p l e R s m args below meth c Q A D cA ad cB sB hE w1 w2 w3 H locs ls cells slots h1 h2 hP hD hS hl
  obtain ⟨hx, hb, hml, hown, hts, hN, hK, hA, ⟨hR1, hR2, hR3, hR4⟩, hi, hRet⟩ := id hE
  obtain ⟨g1, ⟨ty0, g2⟩, g3⟩ := e_cls hr
  refine va_new (ci := ci) (fs := fs) (C := r.1) (T := r.2.1) (N := r.2.2) hx hb hts g1 ty0 g2 hown (hts _ hcl) (hts _ hin) (hts _ hini) hK hP hD hS hA hr (fun j hj => hfs j hj _ (g2 j hj)) (by omega) (by omega) h (fun q H1 hP1 hD1 hS1 => ?_)
  have ew := e_w_new (q := q) (ad := ad) (cA := cA) (x := .inr (ci, fs)) w1 hwf
  have ex : e_c ad cA (.inr (ci, fs)) = .inr (ci, fs) := by show (Sum.inr (ci, fs.map (e_v ad)) : va_E) = _; rw [hnr]
  rw [ex] at ew
  have ha : ∀ k, k < N → (fun k => if k = N then q else ad k) k = ad k := fun k hk => if_neg (by omega)
  rw [ew] at hP1 hD1
  have e2 : (Value.ref N :: S).map (e_v (fun k => if k = N then q else ad k)) = .ref q :: S.map (e_v ad) := by
    rw [List.map_cons, e_S_ag w3 ha]
    show Value.ref (if N = N then q else ad N) :: _ = _
    rw [if_pos rfl]
  have r := k p l e R s m args below meth c Q A D cA _ cB sB (g_env_up hE (Nat.le_succ N) ha) (wfM_new w1 (wfC_up hwf (Nat.le_succ N))) (wfL_up w2 (Nat.le_succ N)) (wf_c (wf_rN N) (wfL_up w3 (Nat.le_succ N))) H1 locs ls (cells + 1) (slots + r.2.2) (by omega) (by omega) hP1 hD1 hS1 (e_R_ag hl w2 ha)
  rw [e2] at r
  exact r
/-- a final reference, in its own constructor -/
theorem gv_putF {idx ci j q x : Nat} {r : vw_C} {fs : List Value} {ty : FieldType} (h : decode μ.2.1 pc = .ok (.putfield idx, 3)) (hr : vwCl[ci]? = some r) (hj : j < r.2.2) (hlk : Cond.fieldLink μ.1.cls idx (r.2.1 j).1 (r.2.1 j).2.1 (r.2.1 j).2.2.1 ∈ e_big) (hfin : (r.2.1 j).2.2.2 = true) (hown1 : (r.2.1 j).1 = μ.1.cls) (hnm : μ.1.name = "<init>") (hty : parseFieldDescriptor (r.2.1 j).2.2.1 = some ty) (hnar : ∀ a, narrow ty (.ref a) = .ref a) (hfit : ∀ a, fits ty (.ref a) = true) (hk : q < N) (hM : M q = .inr (ci, fs)) (hjl : j < fs.length) (k : Gv N d nc ns μ (pc + 3) L S (mu M q (.inr (ci, fs.set j (.ref x)))) P) : Gv N d nc ns μ pc L (.ref x :: .ref q :: S) M P := by
  intro p l e R s m args below meth c Q A D cA ad cB sB hE w1 w2 w3 H locs ls cells slots h1 h2 hP hD hS hl
  obtain ⟨hx, hb, hml, hown, hts, hN, hK, hA, ⟨hR1, hR2, hR3, hR4⟩, hi, hRet⟩ := id hE
  obtain ⟨g1, ⟨ty0, g2⟩, g3⟩ := e_cls hr
  have e0 : (e_w N ad cA M).set q (ad q, .inr (ci, (fs.map (e_v ad)).set j (.ref (ad x)))) = e_w N ad cA (mu M q (.inr (ci, fs.set j (.ref x)))) := by
    rw [← e_w_set]
    show _ = (e_w N ad cA M).set q (ad q, .inr (ci, (fs.set j (.ref x)).map (e_v ad)))
    rw [List.map_set]
    rfl
  have hl9 : j < (fs.map (e_v ad)).length := by rw [List.length_map]; exact hjl
  have wx : wfV N (.ref x) := w3 _ List.mem_cons_self
  have w4 : wfL N S := fun v hv => w3 v (List.mem_cons_of_mem _ (List.mem_cons_of_mem _ hv))
  have wM : wfM N (mu M q (.inr (ci, fs.set j (.ref x)))) := wfM_mu w1 (fun v hv => by
    rcases List.mem_or_eq_of_mem_set hv with z | z
    · have := w1 q hk
      rw [hM] at this
      exact this v z
    · rw [z]; exact wx)
  exact va_putF (C := r.1) (T := r.2.1) (N := r.2.2) hx hb hts g1 ty0 g2 g3 hown hK hP hD hS q (e_w_atc hk hM) hr j hj (hts _ hlk) (fun _ z => z) hfin (hi.1 hnm) hown1 hty (hnar _) (hfit _) hl9 h (fun H1 locs1 hP1 hD1 hS1 => k _ _ _ _ _ _ _ _ _ _ _ _ _ _ _ _ _ hE wM w2 w4 H1 locs1 ls cells slots h1 h2 (e0 ▸ hP1) (e0 ▸ hD1) hS1 hl)
end GVR
