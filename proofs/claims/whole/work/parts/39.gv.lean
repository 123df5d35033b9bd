/-! ===== a world that grows: constructors ===== -/
def g_env (N d : Nat) (μ : mI) (P : Nat → mM → Prop) (p : Program) (l : Launch) (e : Env) (R : Room) (s : State) (m : MethodId) (args : Array Value) (below : List Frame) (meth : Method) (c : Code) (Q : State → Prop) (A : Nat → Prop) (D : va_G) (cA : Nat → ClassId) (ad : Nat → Nat) (cB sB : Nat) : Prop :=
  p.tables.exec = Jvm.exec ∧ c.code = μ.2.1 ∧ c.maxLocals = μ.2.2.1 ∧ s.vm.findClass μ.1.cls = some m.cls ∧ (∀ w ∈ e_big, w.before args s = true) ∧ (∀ w ∈ e_nst, va_Nw w s) ∧ va_K D vwCl (e_tys cA) s ∧ (∀ q : Nat, s.heap.size ≤ q → A q) ∧ (d ≤ R.frames ∧ 33 * d ≤ R.locals ∧ cB ≤ R.cells ∧ sB ≤ R.slots) ∧ (μ.1.name = "<init>" → meth.name = "<init>") ∧
  ∀ (N1 : Nat) (M1 : mM) (ad1 : Nat → Nat) (H1 : Heap) (locs1 : List Loc) (ls1 : Array Slot) (pc1 cells slots : Nat), (∀ k, k < N → ad1 k = ad k) → cells ≤ cB → slots ≤ sB → P N1 M1 → e_ret μ pc1 none → va_P D vwCl (e_w N1 ad1 cA M1) H1 → va_D A (e_w N1 ad1 cA M1) → va_S A s.heap H1 locs1 → W p l e R s m args below meth c H1 locs1 cells slots Q (F0 m pc1 ls1 [])
def Gv (N d nc ns : Nat) (μ : mI) (pc : Nat) (L S : List Value) (M : mM) (P : Nat → mM → Prop) : Prop :=
  ∀ (p : Program) (l : Launch) (e : Env) (R : Room) (s : State) (m : MethodId) (args : Array Value) (below : List Frame) (meth : Method) (c : Code) (Q : State → Prop) (A : Nat → Prop) (D : va_G) (cA : Nat → ClassId) (ad : Nat → Nat) (cB sB : Nat), g_env N d μ P p l e R s m args below meth c Q A D cA ad cB sB → ∀ (H : Heap) (locs : List Loc) (ls : Array Slot) (cells slots : Nat), cells + nc ≤ cB → slots + ns ≤ sB → va_P D vwCl (e_w N ad cA M) H → va_D A (e_w N ad cA M) → va_S A s.heap H locs → e_R ls μ.2.2.1 ad L → W p l e R s m args below meth c H locs cells slots Q (F0 m pc ls (S.map (e_v ad)))
def g_Qc (N : Nat) (P : Nat → mM → Prop) (D : va_G) (cA : Nat → ClassId) (ad : Nat → Nat) (A : Nat → Prop) : Array Value → State → Outcome → State → Prop := fun _ st oc t => (∃ (N1 : Nat) (M1 : mM) (ad1 : Nat → Nat), oc = .returned none ∧ (∀ k, k < N → ad1 k = ad k) ∧ P N1 M1 ∧ e_B N1 D cA ad1 A M1 t) ∧ va_F A st t
def g_rm (d nc ns : Nat) : Room := { frames := d, cells := nc, slots := ns, locals := 33 * d }
set_option maxHeartbeats 4000000 in
theorem g_met {N d nc ns k : Nat} {μ : mI} {M : mM} {P : Nat → mM → Prop} (hpl : plainName μ.1.cls = true) (hfit : 1 ≤ μ.2.2.1) (h : Gv N d nc ns μ 0 (e_ent μ.2.2.1 [.ref k]) [] M P) (l : Launch) (D : va_G) (cA : Nat → ClassId) (ad : Nat → Nat) (sz : Nat) :
    Met l μ.1 (e_ws μ) (g_rm d nc ns) (va_Pc ([Value.ref k].map (e_v ad)) (e_pre N D cA ad M sz)) (g_Qc N P D cA ad (va_A (e_w N ad cA M) sz)) nc ns (va_A (e_w N ad cA M) sz) := by
  refine Met.ofW (cc := μ.2.1) (maxL := μ.2.2.1) (ret := μ.2.2.2) hpl rfl ?_
  intro p e s m args' below meth c s₁ B hml hv
  obtain ⟨rfl, hsz, hP, hK, hD0, hN⟩ := hv
  have hx := B.exec
  have hb := B.bytes
  have hrt := B.returns
  have hts := atoms_spec (ws := e_ws μ) B.pre
  have hown : s.vm.findClass μ.1.cls = some m.cls := findClass_of_methodNamed B.named
  have hin := (name_of_methodNamed B.named B.method).1
  subst hsz
  have hD := hD0.self (sz := s.heap.size)
  rw [lg_entry_eq]
  refine h p l e _ s m _ below meth c _ (va_A (e_w N ad cA M) s.heap.size) D cA ad nc ns ⟨hx, hb, hml, hown, fun w hw => hts w (List.mem_cons_of_mem _ hw), hN, hK, fun q hq => Or.inr hq, ⟨Nat.le_refl _, Nat.le_refl _, Nat.le_refl _, Nat.le_refl _⟩, fun z => hin.trans z, ?_⟩ s.heap [] _ 0 0 (by omega) (by omega) hP hD va_S.rf (e_R_ent ad [.ref k] hfit)
  intro N1 M1 ad1 H1 locs1 ls1 pc1 cells slots hag hc1 hs1 hp hr hP1 hD1 hS1
  refine W.widen (k := nc) (n := ns) hc1 hs1 ?_
  exact W.vret hx hb (hrt.trans hr.2) (fun t ht hW => ⟨⟨N1, M1, ad1, rfl, hag, hp, by rw [ht]; exact hP1, va_K.moved hW.alike hK, hD1⟩, hS1.F ht⟩) hS1.2.2 hr.1
section GVR
variable {N d nc ns : Nat} {μ : mI} {pc : Nat} {L S : List Value} {M : mM} {P : Nat → mM → Prop}
theorem gv_aload0 {x : Nat} (h : decode μ.2.1 pc = .ok (.aload_n 0, 1)) (hL : L[0]? = some (.ref x)) (k : Gv N d nc ns μ (pc + 1) L (.ref x :: S) M P) : Gv N d nc ns μ pc L S M P := by
  intro p l e R s m args below meth c Q A D cA ad cB sB hE H locs ls cells slots h1 h2 hP hD hS hl
  exact lv_aload_n hE.1 hE.2.1 h rfl (hl.2.2 0 _ hL (fun z => by cases z)) (k _ _ _ _ _ _ _ _ _ _ _ _ _ _ _ _ _ hE H locs ls cells slots h1 h2 hP hD hS hl)
theorem gv_bipush {n : Int} {v : Int32} (h : decode μ.2.1 pc = .ok (.bipush n, 2)) (hv : (Int8.ofInt n).toInt32 = v) (k : Gv N d nc ns μ (pc + 2) L (.int v :: S) M P) : Gv N d nc ns μ pc L S M P := by
  intro p l e R s m args below meth c Q A D cA ad cB sB hE H locs ls cells slots h1 h2 hP hD hS hl
  exact lv_bipush hE.1 hE.2.1 h hv (k _ _ _ _ _ _ _ _ _ _ _ _ _ _ _ _ _ hE H locs ls cells slots h1 h2 hP hD hS hl)
theorem gv_ret0 (h : decode μ.2.1 pc = .ok (.return_, 1)) (hr : μ.2.2.2 = none) (hp : P N M) : Gv N d nc ns μ pc L [] M P := by
  intro p l e R s m args below meth c Q A D cA ad cB sB hE H locs ls cells slots h1 h2 hP hD hS hl
  obtain ⟨hx, hb, hml, hown, hts, hN, hK, hA, hR, hi, hRet⟩ := id hE
  exact hRet N M ad H locs ls pc cells slots (fun _ _ => rfl) (by omega) (by omega) hp ⟨h, hr⟩ hP hD hS
end GVR
