/-! ===== small worlds: cells by number, values with cells' numbers; Ev: 'from here the method comes to its end with P' ===== -/
abbrev mC : Type := (Nat × Nat × ((Nat → Int32) ⊕ (Nat → Option Nat))) ⊕ (Nat × List Value)
abbrev mM : Type := Nat → mC
abbrev mI : Type := MethodName × ByteArray × Nat × Option FieldType
abbrev mX : Type := Option (Nat × (Nat → Int32))
def mu (M : mM) (k : Nat) (c : mC) : mM := fun j => if j = k then c else M j
theorem mu_s (M : mM) (k : Nat) (c : mC) : mu M k c k = c := if_pos rfl
theorem mu_n {M : mM} {k j : Nat} {c : mC} (h : j ≠ k) : mu M k c j = M j := if_neg h
theorem mu_mu (M : mM) (k : Nat) (c c' : mC) : mu (mu M k c) k c' = mu M k c' := by
  funext j
  by_cases h : j = k
  · rw [h, mu_s, mu_s]
  · rw [mu_n h, mu_n h, mu_n h]
theorem mu_self {M : mM} {k : Nat} {c : mC} (h : M k = c) : mu M k c = M := by
  funext j
  by_cases hj : j = k
  · rw [hj, mu_s, h]
  · rw [mu_n hj]
def e_v (ad : Nat → Nat) (v : Value) : Value := match v with
  | .ref k => .ref (ad k)
  | .null => .null
  | .int x => .int x
  | .long x => .long x
  | v => v
theorem e_v_cat (ad : Nat → Nat) (v : Value) : (e_v ad v).category = v.category := by cases v <;> rfl
def e_c (ad : Nat → Nat) (cA : Nat → ClassId) (c : mC) : va_E := match c with
  | .inl (t, n, .inl f) => .inl (cA t, n, .inl f)
  | .inl (t, n, .inr g) => .inl (cA t, n, .inr (.inr (.inr (.inr (fun j => (g j).map ad)))))
  | .inr (ci, fs) => .inr (ci, fs.map (e_v ad))
def e_w (N : Nat) (ad : Nat → Nat) (cA : Nat → ClassId) (M : mM) : va_W := (List.range N).map (fun k => (ad k, e_c ad cA (M k)))
theorem e_w_at {N : Nat} {ad : Nat → Nat} {cA : Nat → ClassId} {M : mM} {k : Nat} (h : k < N) : (e_w N ad cA M)[k]? = some (ad k, e_c ad cA (M k)) := by
  simp [e_w, h]
theorem e_w_atc {N : Nat} {ad : Nat → Nat} {cA : Nat → ClassId} {M : mM} {k : Nat} {x : mC} (h : k < N) (hM : M k = x) : (e_w N ad cA M)[k]? = some (ad k, e_c ad cA x) := by
  rw [e_w_at h, hM]
theorem e_w_set {N : Nat} {ad : Nat → Nat} {cA : Nat → ClassId} {M : mM} {k : Nat} (x : mC) : (e_w N ad cA M).set k (ad k, e_c ad cA x) = e_w N ad cA (mu M k x) := by
  refine List.ext_getElem? fun i => ?_
  by_cases hi : i < N
  · rw [e_w_at hi, List.getElem?_set]
    by_cases hk : k = i
    · subst hk
      rw [if_pos rfl, if_pos (by simp [e_w, hi]), mu_s]
    · rw [if_neg hk, e_w_at hi, mu_n (Ne.symm hk)]
  · rw [List.getElem?_eq_none (by simp [e_w]; omega), List.getElem?_eq_none (by simp [e_w]; omega)]
def e_tys (cA : Nat → ClassId) : List (ClassId × FieldType) := [(cA 0, .int), (cA 1, .boolean), (cA 2, .object "BlottedFirst$Sheet")]
/-! locals: by places; null: nothing known -/
def e_R (ls : Array Slot) (n : Nat) (ad : Nat → Nat) (L : List Value) : Prop := ls.size = n ∧ lv_wf ls ∧ ∀ (i : Nat) (v : Value), L[i]? = some v → v ≠ .null → ls[i]? = some (.val (e_v ad v))
def e_li (ad : Nat → Nat) (L : List Value) (i : Nat) : Option (Nat × Value) := match L[i]? with
  | some .null => none
  | some v => some (i, e_v ad v)
  | none => none
def e_l (ad : Nat → Nat) (L : List Value) : List (Nat × Value) := (List.range L.length).filterMap (e_li ad L)
theorem e_l_in {ad : Nat → Nat} {L : List Value} {i : Nat} {v : Value} (h : L[i]? = some v) (hn : v ≠ .null) : (i, e_v ad v) ∈ e_l ad L := by
  refine List.mem_filterMap.mpr ⟨i, List.mem_range.mpr (List.getElem?_eq_some_iff.mp h).1, ?_⟩
  unfold e_li
  rw [h]
  cases v <;> first | rfl | exact absurd rfl hn
theorem e_l_of {ad : Nat → Nat} {L : List Value} {q : Nat × Value} (h : q ∈ e_l ad L) : ∃ v, L[q.1]? = some v ∧ v ≠ .null ∧ q.2 = e_v ad v := by
  obtain ⟨i, -, hi⟩ := List.mem_filterMap.mp h
  unfold e_li at hi
  split at hi
  · cases hi
  · next v hv hne =>
    cases hi
    exact ⟨_, hne, fun z => by subst z; exact hv rfl, rfl⟩
  · cases hi
theorem e_R.lv {ls : Array Slot} {n : Nat} {ad : Nat → Nat} {L : List Value} (h : e_R ls n ad L) : lv_has ls n (e_l ad L) :=
  ⟨h.1, h.2.1, fun q hq => by
    obtain ⟨v, h1, h2, h3⟩ := e_l_of hq
    rw [h3]
    exact h.2.2 _ _ h1 h2⟩
def e_okS (L : List Value) (i : Nat) : Bool := match i with
  | 0 => true
  | j + 1 => match L[j]? with
    | some v => v.category == 1
    | none => true
theorem e_okS_spec {L : List Value} {j i : Nat} {w : Value} (ho : e_okS L i = true) (hj : L[j]? = some w) (hji : j + 1 = i) : w.category = 1 := by
  subst hji
  simpa [e_okS, hj] using ho
theorem e_R_st1 {ls' : Array Slot} {n : Nat} {ad : Nat → Nat} {L : List Value} {i : Nat} {v : Value} (h' : lv_has ls' n ((i, e_v ad v) :: (e_l ad L).filter (fun q => !(q.1 == i) && !(q.1 + 1 == i && q.2.category == 2)))) (ho : e_okS L i = true) : e_R ls' n ad (L.set i v) := by
  refine ⟨h'.1, h'.2.1, fun j w hj hw => ?_⟩
  by_cases hji : j = i
  · subst hji
    have hlt : j < (L.set j v).length := (List.getElem?_eq_some_iff.mp hj).1
    rw [List.length_set] at hlt
    rw [List.getElem?_set_self hlt] at hj
    cases hj
    exact h'.2.2 _ List.mem_cons_self
  · rw [List.getElem?_set_ne (Ne.symm hji)] at hj
    refine h'.2.2 (j, e_v ad w) (List.mem_cons_of_mem _ (List.mem_filter.mpr ⟨e_l_in hj hw, ?_⟩))
    have h1 : (j == i) = false := by simp [hji]
    by_cases h2 : j + 1 = i
    · have h3 := e_okS_spec ho hj h2
      simp [h1, e_v_cat, h3]
    · simp [h1, h2]
theorem e_R_st2 {ls' : Array Slot} {n : Nat} {ad : Nat → Nat} {L : List Value} {i : Nat} {v : Value} (h' : lv_has ls' n ((i, e_v ad v) :: (e_l ad L).filter (fun q => !(q.1 == i) && (!(q.1 == i + 1) && !(q.1 + 1 == i && q.2.category == 2))))) (ho : e_okS L i = true) : e_R ls' n ad ((L.set i v).set (i + 1) .null) := by
  refine ⟨h'.1, h'.2.1, fun j w hj hw => ?_⟩
  by_cases hj1 : j = i + 1
  · subst hj1
    have hlt : i + 1 < ((L.set i v).set (i + 1) .null).length := (List.getElem?_eq_some_iff.mp hj).1
    rw [List.length_set] at hlt
    rw [List.getElem?_set_self hlt] at hj
    cases hj
    exact absurd rfl hw
  · rw [List.getElem?_set_ne (Ne.symm hj1)] at hj
    by_cases hji : j = i
    · subst hji
      have hlt : j < (L.set j v).length := (List.getElem?_eq_some_iff.mp hj).1
      rw [List.length_set] at hlt
      rw [List.getElem?_set_self hlt] at hj
      cases hj
      exact h'.2.2 _ List.mem_cons_self
    · rw [List.getElem?_set_ne (Ne.symm hji)] at hj
      refine h'.2.2 (j, e_v ad w) (List.mem_cons_of_mem _ (List.mem_filter.mpr ⟨e_l_in hj hw, ?_⟩))
      have h1 : (j == i) = false := by simp [hji]
      have h4 : (j == i + 1) = false := by simp [hj1]
      by_cases h2 : j + 1 = i
      · have h3 := e_okS_spec ho hj h2
        simp [h1, h4, e_v_cat, h3]
      · simp [h1, h4, h2]
def e_sp : List Value → List Value
  | [] => []
  | v :: r => if v.category = 2 then v :: .null :: e_sp r else v :: e_sp r
def e_ent (n : Nat) (vs : List Value) : List Value := e_sp vs ++ List.replicate (n - (e_sp vs).length) .null
theorem e_sp_len (ad : Nat → Nat) : ∀ vs : List Value, (lg_sl (vs.map (e_v ad))).length = (e_sp vs).length
  | [] => rfl
  | v :: r => by
    have ih := e_sp_len ad r
    unfold lg_sl at ih ⊢
    rw [List.map_cons, List.flatMap_cons, List.length_append, ih, e_v_cat, show e_sp (v :: r) = (if v.category = 2 then v :: .null :: e_sp r else v :: e_sp r) from rfl]
    by_cases hc : v.category = 2
    · rw [if_pos hc, if_pos hc]
      simp only [List.length_cons, List.length_nil]
      omega
    · rw [if_neg hc, if_neg hc]
      simp only [List.length_cons, List.length_nil]
      omega
theorem e_sp_at (ad : Nat → Nat) : ∀ (vs : List Value) (j i : Nat) (v : Value), (e_sp vs)[i]? = some v → v ≠ .null → (j + i, e_v ad v) ∈ lv_args j (vs.map (e_v ad))
  | [], j, i, v, h, _ => by simp [e_sp] at h
  | u :: r, j, i, v, h, hn => by
    rw [List.map_cons]
    unfold lv_args
    unfold e_sp at h
    rw [e_v_cat]
    by_cases hc : u.category = 2
    · rw [if_pos hc] at h ⊢
      match i, h with
      | 0, h =>
        cases h
        exact List.mem_cons_self
      | 1, h =>
        cases h
        exact absurd rfl hn
      | i + 2, h =>
        have h2 := e_sp_at ad r (j + 2) i v (by simpa using h) hn
        rw [show j + (i + 2) = j + 2 + i by omega]
        exact List.mem_cons_of_mem _ h2
    · rw [if_neg hc] at h ⊢
      match i, h with
      | 0, h =>
        cases h
        exact List.mem_cons_self
      | i + 1, h =>
        have h2 := e_sp_at ad r (j + 1) i v (by simpa using h) hn
        rw [show j + (i + 1) = j + 1 + i by omega]
        exact List.mem_cons_of_mem _ h2
theorem e_R_ent (ad : Nat → Nat) (vs : List Value) {n : Nat} (h : (e_sp vs).length ≤ n) : e_R ((lg_sl (vs.map (e_v ad)) ++ List.replicate (n - (lg_sl (vs.map (e_v ad))).length) Slot.unset).toArray) n ad (e_ent n vs) := by
  have hl := lv_entry (vs.map (e_v ad)) (n := n) (by rw [e_sp_len]; exact h)
  refine ⟨hl.1, hl.2.1, fun i v hi hn => ?_⟩
  have hi2 : (e_sp vs)[i]? = some v := by
    unfold e_ent at hi
    by_cases hlt : i < (e_sp vs).length
    · rwa [List.getElem?_append_left hlt] at hi
    · rw [List.getElem?_append_right (by omega), List.getElem?_replicate] at hi
      split at hi
      · cases hi
        exact absurd rfl hn
      · cases hi
  have h3 := hl.2.2 _ (e_sp_at ad vs 0 i v hi2 hn)
  rwa [show 0 + i = i by omega] at h3
/-- the words that last (e_big), the links to private members of nest mates (e_nst): out of the tables' words -/
def e_big : List Cond := lw_tbl.filter goodWord
def e_isN : Cond → Bool
  | .fieldLinkNest _ _ _ _ _ _ => true
  | .methodLinkNest _ _ _ _ => true
  | _ => false
def e_nst : List Cond := lw_tbl.filter e_isN
theorem e_nst_is : ∀ w ∈ e_nst, e_isN w = true := fun _ h => (List.mem_filter.mp h).2
theorem e_nst_warm {s U : State} (hW : s.WarmedH U.vm) (h : ∀ w ∈ e_nst, va_Nw w s) : ∀ w ∈ e_nst, va_Nw w U := by
  intro w hw
  have h1 := e_nst_is w hw
  have h2 := h w hw
  cases w <;> first | exact va_Nw.warmF hW h2 | exact va_Nw.warmM hW h2 | cases h1
theorem e_nst_same {u U : State} (hv : u.vm = U.vm) (h : ∀ w ∈ e_nst, va_Nw w u) : ∀ w ∈ e_nst, va_Nw w U := by
  intro w hw
  have h1 := e_nst_is w hw
  have h2 := h w hw
  cases w <;> first | exact va_Nw.same rfl hv h2 | cases h1
theorem e_good : ∀ w ∈ e_big, goodWord w = true := fun _ h => (List.mem_filter.mp h).2
theorem e_in0 {w : Cond} (k : Nat) (h : (k2_sels lw_privs)[k]? = some w) : w ∈ lw_tbl := List.mem_append_left _ (List.mem_of_getElem? h)
theorem e_in1 {w : Cond} (k : Nat) (h : tables_1_1[k]? = some w) : w ∈ lw_tbl := List.mem_append_right _ (List.mem_append_left _ (List.mem_of_getElem? h))
theorem e_in2 {w : Cond} (k : Nat) (h : tables_1_2[k]? = some w) : w ∈ lw_tbl := List.mem_append_right _ (List.mem_append_right _ (List.mem_append_left _ (List.mem_of_getElem? h)))
theorem e_in3 {w : Cond} (k : Nat) (h : tables_1_3[k]? = some w) : w ∈ lw_tbl := List.mem_append_right _ (List.mem_append_right _ (List.mem_append_right _ (List.mem_append_left _ (List.mem_of_getElem? h))))
theorem e_in4 {w : Cond} (k : Nat) (h : tables_1_4[k]? = some w) : w ∈ lw_tbl := List.mem_append_right _ (List.mem_append_right _ (List.mem_append_right _ (List.mem_append_right _ (List.mem_of_getElem? h))))
theorem e_bg {w : Cond} (h : w ∈ lw_tbl) (hg : goodWord w = true) : w ∈ e_big := List.mem_filter.mpr ⟨h, hg⟩
theorem e_ns {w : Cond} (h : w ∈ lw_tbl) (hg : e_isN w = true) : w ∈ e_nst := List.mem_filter.mpr ⟨h, hg⟩
theorem e_goodIn {w : Cond} (hw : w ∈ e_big) : GoodIn e_big (w :: e_big) := fun x hx => by
  rcases List.mem_cons.mp hx with rfl | h
  · exact ⟨hw, good_of_word (e_good _ hw)⟩
  · exact ⟨h, good_of_word (e_good _ h)⟩
def e_ret (μ : mI) (pc : Nat) (r : Option Value) : Prop := match r with
  | none => decode μ.2.1 pc = .ok (.return_, 1) ∧ μ.2.2.2 = none
  | some (.int v) => decode μ.2.1 pc = .ok (.ireturn, 1) ∧ ∃ ty, μ.2.2.2 = some ty ∧ narrow ty (.int v) = .int v
  | some (.long _) => decode μ.2.1 pc = .ok (.lreturn, 1) ∧ μ.2.2.2 = some .long
  | some (.ref _) => decode μ.2.1 pc = .ok (.areturn, 1) ∧ ∃ n, μ.2.2.2 = some (.object n)
  | _ => False
def e_env (N d : Nat) (μ : mI) (X : mX) (P : Option Value → mM → Prop) (p : Program) (l : Launch) (e : Env) (R : Room) (s : State) (m : MethodId) (args : Array Value) (below : List Frame) (meth : Method) (c : Code) (cells slots : Nat) (Q : State → Prop) (A : Nat → Prop) (D : va_G) (cA : Nat → ClassId) (ad : Nat → Nat) : Prop :=
  p.tables.exec = Jvm.exec ∧ c.code = μ.2.1 ∧ c.maxLocals = μ.2.2.1 ∧ s.vm.findClass μ.1.cls = some m.cls ∧ (∀ w ∈ e_big, w.before args s = true) ∧ (∀ w ∈ e_nst, va_Nw w s) ∧ va_K D vwCl (e_tys cA) s ∧ (∀ q : Nat, s.heap.size ≤ q → A q) ∧ (d ≤ R.frames ∧ 33 * d ≤ R.locals ∧ cells ≤ R.cells ∧ slots ≤ R.slots) ∧ (∀ (L : Nat) (xs : Nat → Int32), X = some (L, xs) → va_X (ad 1000) L xs s s.heap ∧ ad 1000 < s.heap.size ∧ ¬ A (ad 1000)) ∧
  ∀ (r : Option Value) (M1 : mM) (H1 : Heap) (locs1 : List Loc) (ls1 : Array Slot) (pc1 : Nat), P r M1 → e_ret μ pc1 r → va_P D vwCl (e_w N ad cA M1) H1 → va_D A (e_w N ad cA M1) → va_S A s.heap H1 locs1 → W p l e R s m args below meth c H1 locs1 cells slots Q (F0 m pc1 ls1 (r.toList.map (e_v ad)))
def Ev (N d : Nat) (μ : mI) (X : mX) (pc : Nat) (L S : List Value) (M : mM) (P : Option Value → mM → Prop) : Prop :=
  ∀ (p : Program) (l : Launch) (e : Env) (R : Room) (s : State) (m : MethodId) (args : Array Value) (below : List Frame) (meth : Method) (c : Code) (cells slots : Nat) (Q : State → Prop) (A : Nat → Prop) (D : va_G) (cA : Nat → ClassId) (ad : Nat → Nat), e_env N d μ X P p l e R s m args below meth c cells slots Q A D cA ad → ∀ (H : Heap) (locs : List Loc) (ls : Array Slot), va_P D vwCl (e_w N ad cA M) H → va_D A (e_w N ad cA M) → va_S A s.heap H locs → e_R ls μ.2.2.1 ad L → W p l e R s m args below meth c H locs cells slots Q (F0 m pc ls (S.map (e_v ad)))
section EVR
variable {N d : Nat} {μ : mI} {X : mX} {pc : Nat} {L S : List Value} {M : mM} {P : Option Value → mM → Prop}
theorem ev_iconst {n : Int} {v : Int32} (h : decode μ.2.1 pc = .ok (.iconst n, 1)) (hv : Int32.ofInt n = v) (k : Ev N d μ X (pc + 1) L (.int v :: S) M P) : Ev N d μ X pc L (S) M P := by
  intro p l e R s m args below meth c cells slots Q A D cA ad hE H locs ls hP hD hS hl
  exact lv_iconst  hE.1 hE.2.1 h hv (k _ _ _ _ _ _ _ _ _ _ _ _ _ _ _ _ _ hE H locs ls hP hD hS hl)
theorem ev_bipush {n : Int} {v : Int32} (h : decode μ.2.1 pc = .ok (.bipush n, 2)) (hv : (Int8.ofInt n).toInt32 = v) (k : Ev N d μ X (pc + 2) L (.int v :: S) M P) : Ev N d μ X pc L (S) M P := by
  intro p l e R s m args below meth c cells slots Q A D cA ad hE H locs ls hP hD hS hl
  exact lv_bipush  hE.1 hE.2.1 h hv (k _ _ _ _ _ _ _ _ _ _ _ _ _ _ _ _ _ hE H locs ls hP hD hS hl)
theorem ev_sipush {n : Int} {v : Int32} (h : decode μ.2.1 pc = .ok (.sipush n, 3)) (hv : (Int16.ofInt n).toInt32 = v) (k : Ev N d μ X (pc + 3) L (.int v :: S) M P) : Ev N d μ X pc L (S) M P := by
  intro p l e R s m args below meth c cells slots Q A D cA ad hE H locs ls hP hD hS hl
  exact lv_sipush  hE.1 hE.2.1 h hv (k _ _ _ _ _ _ _ _ _ _ _ _ _ _ _ _ _ hE H locs ls hP hD hS hl)
theorem ev_lconst {n : Fin 2} {v : Int64} (h : decode μ.2.1 pc = .ok (.lconst n, 1)) (hv : Int64.ofNat (n : Nat) = v) (k : Ev N d μ X (pc + 1) L (.long v :: S) M P) : Ev N d μ X pc L (S) M P := by
  intro p l e R s m args below meth c cells slots Q A D cA ad hE H locs ls hP hD hS hl
  exact lv_lconst  hE.1 hE.2.1 h hv (k _ _ _ _ _ _ _ _ _ _ _ _ _ _ _ _ _ hE H locs ls hP hD hS hl)
theorem ev_iadd {x y : Int32} (h : decode μ.2.1 pc = .ok (.iadd, 1)) (k : Ev N d μ X (pc + 1) L (.int (x + y) :: S) M P) : Ev N d μ X pc L (.int y :: .int x :: S) M P := by
  intro p l e R s m args below meth c cells slots Q A D cA ad hE H locs ls hP hD hS hl
  exact lv_iadd  hE.1 hE.2.1 h (k _ _ _ _ _ _ _ _ _ _ _ _ _ _ _ _ _ hE H locs ls hP hD hS hl)
theorem ev_isub {x y : Int32} (h : decode μ.2.1 pc = .ok (.isub, 1)) (k : Ev N d μ X (pc + 1) L (.int (x - y) :: S) M P) : Ev N d μ X pc L (.int y :: .int x :: S) M P := by
  intro p l e R s m args below meth c cells slots Q A D cA ad hE H locs ls hP hD hS hl
  exact lv_isub  hE.1 hE.2.1 h (k _ _ _ _ _ _ _ _ _ _ _ _ _ _ _ _ _ hE H locs ls hP hD hS hl)
theorem ev_imul {x y : Int32} (h : decode μ.2.1 pc = .ok (.imul, 1)) (k : Ev N d μ X (pc + 1) L (.int (x * y) :: S) M P) : Ev N d μ X pc L (.int y :: .int x :: S) M P := by
  intro p l e R s m args below meth c cells slots Q A D cA ad hE H locs ls hP hD hS hl
  exact lv_imul  hE.1 hE.2.1 h (k _ _ _ _ _ _ _ _ _ _ _ _ _ _ _ _ _ hE H locs ls hP hD hS hl)
theorem ev_iand {x y : Int32} (h : decode μ.2.1 pc = .ok (.iand, 1)) (k : Ev N d μ X (pc + 1) L (.int (x &&& y) :: S) M P) : Ev N d μ X pc L (.int y :: .int x :: S) M P := by
  intro p l e R s m args below meth c cells slots Q A D cA ad hE H locs ls hP hD hS hl
  exact lv_iand  hE.1 hE.2.1 h (k _ _ _ _ _ _ _ _ _ _ _ _ _ _ _ _ _ hE H locs ls hP hD hS hl)
theorem ev_ior {x y : Int32} (h : decode μ.2.1 pc = .ok (.ior, 1)) (k : Ev N d μ X (pc + 1) L (.int (x ||| y) :: S) M P) : Ev N d μ X pc L (.int y :: .int x :: S) M P := by
  intro p l e R s m args below meth c cells slots Q A D cA ad hE H locs ls hP hD hS hl
  exact lv_ior  hE.1 hE.2.1 h (k _ _ _ _ _ _ _ _ _ _ _ _ _ _ _ _ _ hE H locs ls hP hD hS hl)
theorem ev_ixor {x y : Int32} (h : decode μ.2.1 pc = .ok (.ixor, 1)) (k : Ev N d μ X (pc + 1) L (.int (x ^^^ y) :: S) M P) : Ev N d μ X pc L (.int y :: .int x :: S) M P := by
  intro p l e R s m args below meth c cells slots Q A D cA ad hE H locs ls hP hD hS hl
  exact lv_ixor  hE.1 hE.2.1 h (k _ _ _ _ _ _ _ _ _ _ _ _ _ _ _ _ _ hE H locs ls hP hD hS hl)
theorem ev_ishl {x y : Int32} (h : decode μ.2.1 pc = .ok (.ishl, 1)) (k : Ev N d μ X (pc + 1) L (.int (x <<< (y &&& 31)) :: S) M P) : Ev N d μ X pc L (.int y :: .int x :: S) M P := by
  intro p l e R s m args below meth c cells slots Q A D cA ad hE H locs ls hP hD hS hl
  exact lv_ishl  hE.1 hE.2.1 h (k _ _ _ _ _ _ _ _ _ _ _ _ _ _ _ _ _ hE H locs ls hP hD hS hl)
theorem ev_ishr {x y : Int32} (h : decode μ.2.1 pc = .ok (.ishr, 1)) (k : Ev N d μ X (pc + 1) L (.int (x >>> (y &&& 31)) :: S) M P) : Ev N d μ X pc L (.int y :: .int x :: S) M P := by
  intro p l e R s m args below meth c cells slots Q A D cA ad hE H locs ls hP hD hS hl
  exact lv_ishr  hE.1 hE.2.1 h (k _ _ _ _ _ _ _ _ _ _ _ _ _ _ _ _ _ hE H locs ls hP hD hS hl)
theorem ev_idiv {x y : Int32} (h : decode μ.2.1 pc = .ok (.idiv, 1)) (hv : ¬ y = 0) (k : Ev N d μ X (pc + 1) L (.int (x / y) :: S) M P) : Ev N d μ X pc L (.int y :: .int x :: S) M P := by
  intro p l e R s m args below meth c cells slots Q A D cA ad hE H locs ls hP hD hS hl
  exact lv_idiv  hE.1 hE.2.1 h hv (k _ _ _ _ _ _ _ _ _ _ _ _ _ _ _ _ _ hE H locs ls hP hD hS hl)
theorem ev_irem {x y : Int32} (h : decode μ.2.1 pc = .ok (.irem, 1)) (hv : ¬ y = 0) (k : Ev N d μ X (pc + 1) L (.int (x - x / y * y) :: S) M P) : Ev N d μ X pc L (.int y :: .int x :: S) M P := by
  intro p l e R s m args below meth c cells slots Q A D cA ad hE H locs ls hP hD hS hl
  exact lv_irem  hE.1 hE.2.1 h hv (k _ _ _ _ _ _ _ _ _ _ _ _ _ _ _ _ _ hE H locs ls hP hD hS hl)
theorem ev_ineg {x : Int32} (h : decode μ.2.1 pc = .ok (.ineg, 1)) (k : Ev N d μ X (pc + 1) L (.int (-x) :: S) M P) : Ev N d μ X pc L (.int x :: S) M P := by
  intro p l e R s m args below meth c cells slots Q A D cA ad hE H locs ls hP hD hS hl
  exact lv_ineg  hE.1 hE.2.1 h (k _ _ _ _ _ _ _ _ _ _ _ _ _ _ _ _ _ hE H locs ls hP hD hS hl)
theorem ev_ladd {x y : Int64} (h : decode μ.2.1 pc = .ok (.ladd, 1)) (k : Ev N d μ X (pc + 1) L (.long (x + y) :: S) M P) : Ev N d μ X pc L (.long y :: .long x :: S) M P := by
  intro p l e R s m args below meth c cells slots Q A D cA ad hE H locs ls hP hD hS hl
  exact lv_ladd  hE.1 hE.2.1 h (k _ _ _ _ _ _ _ _ _ _ _ _ _ _ _ _ _ hE H locs ls hP hD hS hl)
theorem ev_lmul {x y : Int64} (h : decode μ.2.1 pc = .ok (.lmul, 1)) (k : Ev N d μ X (pc + 1) L (.long (x * y) :: S) M P) : Ev N d μ X pc L (.long y :: .long x :: S) M P := by
  intro p l e R s m args below meth c cells slots Q A D cA ad hE H locs ls hP hD hS hl
  exact lv_lmul  hE.1 hE.2.1 h (k _ _ _ _ _ _ _ _ _ _ _ _ _ _ _ _ _ hE H locs ls hP hD hS hl)
theorem ev_land {x y : Int64} (h : decode μ.2.1 pc = .ok (.land, 1)) (k : Ev N d μ X (pc + 1) L (.long (x &&& y) :: S) M P) : Ev N d μ X pc L (.long y :: .long x :: S) M P := by
  intro p l e R s m args below meth c cells slots Q A D cA ad hE H locs ls hP hD hS hl
  exact lv_land  hE.1 hE.2.1 h (k _ _ _ _ _ _ _ _ _ _ _ _ _ _ _ _ _ hE H locs ls hP hD hS hl)
theorem ev_lor {x y : Int64} (h : decode μ.2.1 pc = .ok (.lor, 1)) (k : Ev N d μ X (pc + 1) L (.long (x ||| y) :: S) M P) : Ev N d μ X pc L (.long y :: .long x :: S) M P := by
  intro p l e R s m args below meth c cells slots Q A D cA ad hE H locs ls hP hD hS hl
  exact lv_lor  hE.1 hE.2.1 h (k _ _ _ _ _ _ _ _ _ _ _ _ _ _ _ _ _ hE H locs ls hP hD hS hl)
theorem ev_lrem {x y : Int64} (h : decode μ.2.1 pc = .ok (.lrem, 1)) (hv : ¬ y = 0) (k : Ev N d μ X (pc + 1) L (.long (x - x / y * y) :: S) M P) : Ev N d μ X pc L (.long y :: .long x :: S) M P := by
  intro p l e R s m args below meth c cells slots Q A D cA ad hE H locs ls hP hD hS hl
  exact lv_lrem  hE.1 hE.2.1 h hv (k _ _ _ _ _ _ _ _ _ _ _ _ _ _ _ _ _ hE H locs ls hP hD hS hl)
theorem ev_iushr {x y v : Int32} (h : decode μ.2.1 pc = .ok (.iushr, 1)) (hv : (x.toUInt32 >>> (y.toUInt32 &&& Int32.toUInt32 31)).toInt32 = v) (k : Ev N d μ X (pc + 1) L (.int v :: S) M P) : Ev N d μ X pc L (.int y :: .int x :: S) M P := by
  intro p l e R s m args below meth c cells slots Q A D cA ad hE H locs ls hP hD hS hl
  exact lv_iushr  hE.1 hE.2.1 h hv (k _ _ _ _ _ _ _ _ _ _ _ _ _ _ _ _ _ hE H locs ls hP hD hS hl)
theorem ev_lushr {x v : Int64} {y : Int32} (h : decode μ.2.1 pc = .ok (.lushr, 1)) (hv : (x.toUInt64 >>> (y.toInt64.toUInt64 &&& Int64.toUInt64 63)).toInt64 = v) (k : Ev N d μ X (pc + 1) L (.long v :: S) M P) : Ev N d μ X pc L (.int y :: .long x :: S) M P := by
  intro p l e R s m args below meth c cells slots Q A D cA ad hE H locs ls hP hD hS hl
  exact lv_lushr  hE.1 hE.2.1 h hv (k _ _ _ _ _ _ _ _ _ _ _ _ _ _ _ _ _ hE H locs ls hP hD hS hl)
theorem ev_lshl {x v : Int64} {y : Int32} (h : decode μ.2.1 pc = .ok (.lshl, 1)) (hv : x <<< (y.toInt64 &&& 63) = v) (k : Ev N d μ X (pc + 1) L (.long v :: S) M P) : Ev N d μ X pc L (.int y :: .long x :: S) M P := by
  intro p l e R s m args below meth c cells slots Q A D cA ad hE H locs ls hP hD hS hl
  exact lv_lshl  hE.1 hE.2.1 h hv (k _ _ _ _ _ _ _ _ _ _ _ _ _ _ _ _ _ hE H locs ls hP hD hS hl)
theorem ev_i2l {x : Int32} {v : Int64} (h : decode μ.2.1 pc = .ok (.i2l, 1)) (hv : x.toInt64 = v) (k : Ev N d μ X (pc + 1) L (.long v :: S) M P) : Ev N d μ X pc L (.int x :: S) M P := by
  intro p l e R s m args below meth c cells slots Q A D cA ad hE H locs ls hP hD hS hl
  exact lv_i2l  hE.1 hE.2.1 h hv (k _ _ _ _ _ _ _ _ _ _ _ _ _ _ _ _ _ hE H locs ls hP hD hS hl)
theorem ev_l2i {x : Int64} {v : Int32} (h : decode μ.2.1 pc = .ok (.l2i, 1)) (hv : x.toInt32 = v) (k : Ev N d μ X (pc + 1) L (.int v :: S) M P) : Ev N d μ X pc L (.long x :: S) M P := by
  intro p l e R s m args below meth c cells slots Q A D cA ad hE H locs ls hP hD hS hl
  exact lv_l2i  hE.1 hE.2.1 h hv (k _ _ _ _ _ _ _ _ _ _ _ _ _ _ _ _ _ hE H locs ls hP hD hS hl)
theorem ev_lcmp {x y : Int64} (h : decode μ.2.1 pc = .ok (.lcmp, 1)) (k : Ev N d μ X (pc + 1) L (.int (lg_cmp x y) :: S) M P) : Ev N d μ X pc L (.long y :: .long x :: S) M P := by
  intro p l e R s m args below meth c cells slots Q A D cA ad hE H locs ls hP hD hS hl
  exact W.lcmp  hE.1 hE.2.1 h (k _ _ _ _ _ _ _ _ _ _ _ _ _ _ _ _ _ hE H locs ls hP hD hS hl)
theorem ev_dup {v : Value} (h : decode μ.2.1 pc = .ok (.dup, 1)) (hv : v.category = 1) (k : Ev N d μ X (pc + 1) L (v :: v :: S) M P) : Ev N d μ X pc L (v :: S) M P := by
  intro p l e R s m args below meth c cells slots Q A D cA ad hE H locs ls hP hD hS hl
  exact lv_dup hE.1 hE.2.1 h ((e_v_cat ad v).trans hv) (k _ _ _ _ _ _ _ _ _ _ _ _ _ _ _ _ _ hE H locs ls hP hD hS hl)
theorem ev_dup2 {v u : Value} (h : decode μ.2.1 pc = .ok (.dup2, 1)) (hv : v.category = 1) (hu : u.category = 1) (k : Ev N d μ X (pc + 1) L (v :: u :: v :: u :: S) M P) : Ev N d μ X pc L (v :: u :: S) M P := by
  intro p l e R s m args below meth c cells slots Q A D cA ad hE H locs ls hP hD hS hl
  exact lv_dup2_11 hE.1 hE.2.1 h ((e_v_cat ad v).trans hv) ((e_v_cat ad u).trans hu) (k _ _ _ _ _ _ _ _ _ _ _ _ _ _ _ _ _ hE H locs ls hP hD hS hl)
theorem ev_iload_n {kk : Fin 4} {i : Nat} {x : Int32} (h : decode μ.2.1 pc = .ok (.iload_n kk, 1)) (hi : (kk : Nat) = i) (hL : L[i]? = some (.int x)) (k : Ev N d μ X (pc + 1) L (.int x :: S) M P) : Ev N d μ X pc L S M P := by
  intro p l e R s m args below meth c cells slots Q A D cA ad hE H locs ls hP hD hS hl
  exact lv_iload_n hE.1 hE.2.1 h hi (hl.2.2 i _ hL (fun z => by cases z)) (k _ _ _ _ _ _ _ _ _ _ _ _ _ _ _ _ _ hE H locs ls hP hD hS hl)
theorem ev_iload {i : Nat} {x : Int32} (h : decode μ.2.1 pc = .ok (.iload i, 2)) (hL : L[i]? = some (.int x)) (k : Ev N d μ X (pc + 2) L (.int x :: S) M P) : Ev N d μ X pc L S M P := by
  intro p l e R s m args below meth c cells slots Q A D cA ad hE H locs ls hP hD hS hl
  exact lv_iload hE.1 hE.2.1 h (hl.2.2 i _ hL (fun z => by cases z)) (k _ _ _ _ _ _ _ _ _ _ _ _ _ _ _ _ _ hE H locs ls hP hD hS hl)
theorem ev_istore_n {kk : Fin 4} {i : Nat} {x : Int32} (h : decode μ.2.1 pc = .ok (.istore_n kk, 1)) (hi : (kk : Nat) = i) (hn : i < μ.2.2.1) (ho : e_okS L i = true) (k : Ev N d μ X (pc + 1) (L.set i (.int x)) S M P) : Ev N d μ X pc L (.int x :: S) M P := by
  intro p l e R s m args below meth c cells slots Q A D cA ad hE H locs ls hP hD hS hl
  exact lv_istore_n hE.1 hE.2.1 h hi hl.lv hn rfl (fun ls1 hl1 => k _ _ _ _ _ _ _ _ _ _ _ _ _ _ _ _ _ hE H locs ls1 hP hD hS (e_R_st1 (v := .int x) hl1 ho))
theorem ev_istore {i : Nat} {x : Int32} (h : decode μ.2.1 pc = .ok (.istore i, 2)) (hn : i < μ.2.2.1) (ho : e_okS L i = true) (k : Ev N d μ X (pc + 2) (L.set i (.int x)) S M P) : Ev N d μ X pc L (.int x :: S) M P := by
  intro p l e R s m args below meth c cells slots Q A D cA ad hE H locs ls hP hD hS hl
  exact lv_istore hE.1 hE.2.1 h hl.lv hn rfl (fun ls1 hl1 => k _ _ _ _ _ _ _ _ _ _ _ _ _ _ _ _ _ hE H locs ls1 hP hD hS (e_R_st1 (v := .int x) hl1 ho))
theorem ev_lload_n {kk : Fin 4} {i : Nat} {x : Int64} (h : decode μ.2.1 pc = .ok (.lload_n kk, 1)) (hi : (kk : Nat) = i) (hL : L[i]? = some (.long x)) (k : Ev N d μ X (pc + 1) L (.long x :: S) M P) : Ev N d μ X pc L S M P := by
  intro p l e R s m args below meth c cells slots Q A D cA ad hE H locs ls hP hD hS hl
  exact lv_lload_n hE.1 hE.2.1 h hi (hl.2.2 i _ hL (fun z => by cases z)) (k _ _ _ _ _ _ _ _ _ _ _ _ _ _ _ _ _ hE H locs ls hP hD hS hl)
theorem ev_lload {i : Nat} {x : Int64} (h : decode μ.2.1 pc = .ok (.lload i, 2)) (hL : L[i]? = some (.long x)) (k : Ev N d μ X (pc + 2) L (.long x :: S) M P) : Ev N d μ X pc L S M P := by
  intro p l e R s m args below meth c cells slots Q A D cA ad hE H locs ls hP hD hS hl
  exact lv_lload hE.1 hE.2.1 h (hl.2.2 i _ hL (fun z => by cases z)) (k _ _ _ _ _ _ _ _ _ _ _ _ _ _ _ _ _ hE H locs ls hP hD hS hl)
theorem ev_lstore_n {kk : Fin 4} {i : Nat} {x : Int64} (h : decode μ.2.1 pc = .ok (.lstore_n kk, 1)) (hi : (kk : Nat) = i) (hn : i + 1 < μ.2.2.1) (ho : e_okS L i = true) (k : Ev N d μ X (pc + 1) ((L.set i (.long x)).set (i + 1) .null) S M P) : Ev N d μ X pc L (.long x :: S) M P := by
  intro p l e R s m args below meth c cells slots Q A D cA ad hE H locs ls hP hD hS hl
  exact lv_lstore_n hE.1 hE.2.1 h hi hl.lv hn rfl (fun ls1 hl1 => k _ _ _ _ _ _ _ _ _ _ _ _ _ _ _ _ _ hE H locs ls1 hP hD hS (e_R_st2 (v := .long x) hl1 ho))
theorem ev_lstore {i : Nat} {x : Int64} (h : decode μ.2.1 pc = .ok (.lstore i, 2)) (hn : i + 1 < μ.2.2.1) (ho : e_okS L i = true) (k : Ev N d μ X (pc + 2) ((L.set i (.long x)).set (i + 1) .null) S M P) : Ev N d μ X pc L (.long x :: S) M P := by
  intro p l e R s m args below meth c cells slots Q A D cA ad hE H locs ls hP hD hS hl
  exact lv_lstore hE.1 hE.2.1 h hl.lv hn rfl (fun ls1 hl1 => k _ _ _ _ _ _ _ _ _ _ _ _ _ _ _ _ _ hE H locs ls1 hP hD hS (e_R_st2 (v := .long x) hl1 ho))
theorem ev_aload_n {kk : Fin 4} {i : Nat} {x : Nat} (h : decode μ.2.1 pc = .ok (.aload_n kk, 1)) (hi : (kk : Nat) = i) (hL : L[i]? = some (.ref x)) (k : Ev N d μ X (pc + 1) L (.ref x :: S) M P) : Ev N d μ X pc L S M P := by
  intro p l e R s m args below meth c cells slots Q A D cA ad hE H locs ls hP hD hS hl
  exact lv_aload_n hE.1 hE.2.1 h hi (hl.2.2 i _ hL (fun z => by cases z)) (k _ _ _ _ _ _ _ _ _ _ _ _ _ _ _ _ _ hE H locs ls hP hD hS hl)
theorem ev_aload {i : Nat} {x : Nat} (h : decode μ.2.1 pc = .ok (.aload i, 2)) (hL : L[i]? = some (.ref x)) (k : Ev N d μ X (pc + 2) L (.ref x :: S) M P) : Ev N d μ X pc L S M P := by
  intro p l e R s m args below meth c cells slots Q A D cA ad hE H locs ls hP hD hS hl
  exact lv_aload hE.1 hE.2.1 h (hl.2.2 i _ hL (fun z => by cases z)) (k _ _ _ _ _ _ _ _ _ _ _ _ _ _ _ _ _ hE H locs ls hP hD hS hl)
theorem ev_astore_n {kk : Fin 4} {i : Nat} {x : Nat} (h : decode μ.2.1 pc = .ok (.astore_n kk, 1)) (hi : (kk : Nat) = i) (hn : i < μ.2.2.1) (ho : e_okS L i = true) (k : Ev N d μ X (pc + 1) (L.set i (.ref x)) S M P) : Ev N d μ X pc L (.ref x :: S) M P := by
  intro p l e R s m args below meth c cells slots Q A D cA ad hE H locs ls hP hD hS hl
  exact lv_astore_n hE.1 hE.2.1 h hi hl.lv hn rfl (fun ls1 hl1 => k _ _ _ _ _ _ _ _ _ _ _ _ _ _ _ _ _ hE H locs ls1 hP hD hS (e_R_st1 (v := .ref x) hl1 ho))
theorem ev_astore {i : Nat} {x : Nat} (h : decode μ.2.1 pc = .ok (.astore i, 2)) (hn : i < μ.2.2.1) (ho : e_okS L i = true) (k : Ev N d μ X (pc + 2) (L.set i (.ref x)) S M P) : Ev N d μ X pc L (.ref x :: S) M P := by
  intro p l e R s m args below meth c cells slots Q A D cA ad hE H locs ls hP hD hS hl
  exact lv_astore hE.1 hE.2.1 h hl.lv hn rfl (fun ls1 hl1 => k _ _ _ _ _ _ _ _ _ _ _ _ _ _ _ _ _ hE H locs ls1 hP hD hS (e_R_st1 (v := .ref x) hl1 ho))
theorem ev_iinc {i : Nat} {n : Int} {x v : Int32} (h : decode μ.2.1 pc = .ok (.iinc i n, 3)) (hL : L[i]? = some (.int x)) (hv : x + Int32.ofInt n = v) (hn : i < μ.2.2.1) (ho : e_okS L i = true) (k : Ev N d μ X (pc + 3) (L.set i (.int v)) S M P) : Ev N d μ X pc L S M P := by
  intro p l e R s m args below meth c cells slots Q A D cA ad hE H locs ls hP hD hS hl
  obtain ⟨q, hq⟩ := List.getElem?_of_mem (e_l_in (ad := ad) hL (fun z => by cases z))
  exact lv_iinc hE.1 hE.2.1 h hl.lv hq hv hn rfl (fun ls1 hl1 => k _ _ _ _ _ _ _ _ _ _ _ _ _ _ _ _ _ hE H locs ls1 hP hD hS (e_R_st1 (v := .int v) hl1 ho))
theorem ev_if_eq {x : Int32} {off : Int} (tgt : Nat) (h : decode μ.2.1 pc = .ok (.ifCond .eq off, 3)) (ht : (pc : Int) + off = (tgt : Int)) (kt : x = 0 → Ev N d μ X tgt L S M P) (kf : ¬ x = 0 → Ev N d μ X (pc + 3) L S M P) : Ev N d μ X pc L (.int x :: S) M P := by
  intro p l e R s m args below meth c cells slots Q A D cA ad hE H locs ls hP hD hS hl
  exact lv_if_eq hE.1 hE.2.1 h ht (fun z => kt z _ _ _ _ _ _ _ _ _ _ _ _ _ _ _ _ _ hE H locs ls hP hD hS hl) (fun z => kf z _ _ _ _ _ _ _ _ _ _ _ _ _ _ _ _ _ hE H locs ls hP hD hS hl)
theorem ev_icmp_eq {x y : Int32} {off : Int} (tgt : Nat) (h : decode μ.2.1 pc = .ok (.if_icmp .eq off, 3)) (ht : (pc : Int) + off = (tgt : Int)) (kt : x = y → Ev N d μ X tgt L S M P) (kf : ¬ x = y → Ev N d μ X (pc + 3) L S M P) : Ev N d μ X pc L (.int y :: .int x :: S) M P := by
  intro p l e R s m args below meth c cells slots Q A D cA ad hE H locs ls hP hD hS hl
  exact lv_icmp_eq hE.1 hE.2.1 h ht (fun z => kt z _ _ _ _ _ _ _ _ _ _ _ _ _ _ _ _ _ hE H locs ls hP hD hS hl) (fun z => kf z _ _ _ _ _ _ _ _ _ _ _ _ _ _ _ _ _ hE H locs ls hP hD hS hl)
theorem ev_if_ne {x : Int32} {off : Int} (tgt : Nat) (h : decode μ.2.1 pc = .ok (.ifCond .ne off, 3)) (ht : (pc : Int) + off = (tgt : Int)) (kt : ¬ x = 0 → Ev N d μ X tgt L S M P) (kf : x = 0 → Ev N d μ X (pc + 3) L S M P) : Ev N d μ X pc L (.int x :: S) M P := by
  intro p l e R s m args below meth c cells slots Q A D cA ad hE H locs ls hP hD hS hl
  exact lv_if_ne hE.1 hE.2.1 h ht (fun z => kt z _ _ _ _ _ _ _ _ _ _ _ _ _ _ _ _ _ hE H locs ls hP hD hS hl) (fun z => kf z _ _ _ _ _ _ _ _ _ _ _ _ _ _ _ _ _ hE H locs ls hP hD hS hl)
theorem ev_icmp_ne {x y : Int32} {off : Int} (tgt : Nat) (h : decode μ.2.1 pc = .ok (.if_icmp .ne off, 3)) (ht : (pc : Int) + off = (tgt : Int)) (kt : ¬ x = y → Ev N d μ X tgt L S M P) (kf : x = y → Ev N d μ X (pc + 3) L S M P) : Ev N d μ X pc L (.int y :: .int x :: S) M P := by
  intro p l e R s m args below meth c cells slots Q A D cA ad hE H locs ls hP hD hS hl
  exact lv_icmp_ne hE.1 hE.2.1 h ht (fun z => kt z _ _ _ _ _ _ _ _ _ _ _ _ _ _ _ _ _ hE H locs ls hP hD hS hl) (fun z => kf z _ _ _ _ _ _ _ _ _ _ _ _ _ _ _ _ _ hE H locs ls hP hD hS hl)
theorem ev_if_lt {x : Int32} {off : Int} (tgt : Nat) (h : decode μ.2.1 pc = .ok (.ifCond .lt off, 3)) (ht : (pc : Int) + off = (tgt : Int)) (kt : x < 0 → Ev N d μ X tgt L S M P) (kf : ¬ x < 0 → Ev N d μ X (pc + 3) L S M P) : Ev N d μ X pc L (.int x :: S) M P := by
  intro p l e R s m args below meth c cells slots Q A D cA ad hE H locs ls hP hD hS hl
  exact lv_if_lt hE.1 hE.2.1 h ht (fun z => kt z _ _ _ _ _ _ _ _ _ _ _ _ _ _ _ _ _ hE H locs ls hP hD hS hl) (fun z => kf z _ _ _ _ _ _ _ _ _ _ _ _ _ _ _ _ _ hE H locs ls hP hD hS hl)
theorem ev_icmp_lt {x y : Int32} {off : Int} (tgt : Nat) (h : decode μ.2.1 pc = .ok (.if_icmp .lt off, 3)) (ht : (pc : Int) + off = (tgt : Int)) (kt : x < y → Ev N d μ X tgt L S M P) (kf : ¬ x < y → Ev N d μ X (pc + 3) L S M P) : Ev N d μ X pc L (.int y :: .int x :: S) M P := by
  intro p l e R s m args below meth c cells slots Q A D cA ad hE H locs ls hP hD hS hl
  exact lv_icmp_lt hE.1 hE.2.1 h ht (fun z => kt z _ _ _ _ _ _ _ _ _ _ _ _ _ _ _ _ _ hE H locs ls hP hD hS hl) (fun z => kf z _ _ _ _ _ _ _ _ _ _ _ _ _ _ _ _ _ hE H locs ls hP hD hS hl)
theorem ev_if_ge {x : Int32} {off : Int} (tgt : Nat) (h : decode μ.2.1 pc = .ok (.ifCond .ge off, 3)) (ht : (pc : Int) + off = (tgt : Int)) (kt : 0 ≤ x → Ev N d μ X tgt L S M P) (kf : ¬ 0 ≤ x → Ev N d μ X (pc + 3) L S M P) : Ev N d μ X pc L (.int x :: S) M P := by
  intro p l e R s m args below meth c cells slots Q A D cA ad hE H locs ls hP hD hS hl
  exact lv_if_ge hE.1 hE.2.1 h ht (fun z => kt z _ _ _ _ _ _ _ _ _ _ _ _ _ _ _ _ _ hE H locs ls hP hD hS hl) (fun z => kf z _ _ _ _ _ _ _ _ _ _ _ _ _ _ _ _ _ hE H locs ls hP hD hS hl)
theorem ev_icmp_ge {x y : Int32} {off : Int} (tgt : Nat) (h : decode μ.2.1 pc = .ok (.if_icmp .ge off, 3)) (ht : (pc : Int) + off = (tgt : Int)) (kt : y ≤ x → Ev N d μ X tgt L S M P) (kf : ¬ y ≤ x → Ev N d μ X (pc + 3) L S M P) : Ev N d μ X pc L (.int y :: .int x :: S) M P := by
  intro p l e R s m args below meth c cells slots Q A D cA ad hE H locs ls hP hD hS hl
  exact lv_icmp_ge hE.1 hE.2.1 h ht (fun z => kt z _ _ _ _ _ _ _ _ _ _ _ _ _ _ _ _ _ hE H locs ls hP hD hS hl) (fun z => kf z _ _ _ _ _ _ _ _ _ _ _ _ _ _ _ _ _ hE H locs ls hP hD hS hl)
theorem ev_if_gt {x : Int32} {off : Int} (tgt : Nat) (h : decode μ.2.1 pc = .ok (.ifCond .gt off, 3)) (ht : (pc : Int) + off = (tgt : Int)) (kt : 0 < x → Ev N d μ X tgt L S M P) (kf : ¬ 0 < x → Ev N d μ X (pc + 3) L S M P) : Ev N d μ X pc L (.int x :: S) M P := by
  intro p l e R s m args below meth c cells slots Q A D cA ad hE H locs ls hP hD hS hl
  exact lv_if_gt hE.1 hE.2.1 h ht (fun z => kt z _ _ _ _ _ _ _ _ _ _ _ _ _ _ _ _ _ hE H locs ls hP hD hS hl) (fun z => kf z _ _ _ _ _ _ _ _ _ _ _ _ _ _ _ _ _ hE H locs ls hP hD hS hl)
theorem ev_icmp_gt {x y : Int32} {off : Int} (tgt : Nat) (h : decode μ.2.1 pc = .ok (.if_icmp .gt off, 3)) (ht : (pc : Int) + off = (tgt : Int)) (kt : y < x → Ev N d μ X tgt L S M P) (kf : ¬ y < x → Ev N d μ X (pc + 3) L S M P) : Ev N d μ X pc L (.int y :: .int x :: S) M P := by
  intro p l e R s m args below meth c cells slots Q A D cA ad hE H locs ls hP hD hS hl
  exact lv_icmp_gt hE.1 hE.2.1 h ht (fun z => kt z _ _ _ _ _ _ _ _ _ _ _ _ _ _ _ _ _ hE H locs ls hP hD hS hl) (fun z => kf z _ _ _ _ _ _ _ _ _ _ _ _ _ _ _ _ _ hE H locs ls hP hD hS hl)
theorem ev_if_le {x : Int32} {off : Int} (tgt : Nat) (h : decode μ.2.1 pc = .ok (.ifCond .le off, 3)) (ht : (pc : Int) + off = (tgt : Int)) (kt : x ≤ 0 → Ev N d μ X tgt L S M P) (kf : ¬ x ≤ 0 → Ev N d μ X (pc + 3) L S M P) : Ev N d μ X pc L (.int x :: S) M P := by
  intro p l e R s m args below meth c cells slots Q A D cA ad hE H locs ls hP hD hS hl
  exact lv_if_le hE.1 hE.2.1 h ht (fun z => kt z _ _ _ _ _ _ _ _ _ _ _ _ _ _ _ _ _ hE H locs ls hP hD hS hl) (fun z => kf z _ _ _ _ _ _ _ _ _ _ _ _ _ _ _ _ _ hE H locs ls hP hD hS hl)
theorem ev_icmp_le {x y : Int32} {off : Int} (tgt : Nat) (h : decode μ.2.1 pc = .ok (.if_icmp .le off, 3)) (ht : (pc : Int) + off = (tgt : Int)) (kt : x ≤ y → Ev N d μ X tgt L S M P) (kf : ¬ x ≤ y → Ev N d μ X (pc + 3) L S M P) : Ev N d μ X pc L (.int y :: .int x :: S) M P := by
  intro p l e R s m args below meth c cells slots Q A D cA ad hE H locs ls hP hD hS hl
  exact lv_icmp_le hE.1 hE.2.1 h ht (fun z => kt z _ _ _ _ _ _ _ _ _ _ _ _ _ _ _ _ _ hE H locs ls hP hD hS hl) (fun z => kf z _ _ _ _ _ _ _ _ _ _ _ _ _ _ _ _ _ hE H locs ls hP hD hS hl)
theorem ev_goto {off : Int} (tgt : Nat) (h : decode μ.2.1 pc = .ok (.goto off, 3)) (ht : (pc : Int) + off = (tgt : Int)) (k : Ev N d μ X tgt L S M P) : Ev N d μ X pc L S M P := by
  intro p l e R s m args below meth c cells slots Q A D cA ad hE H locs ls hP hD hS hl
  exact lv_goto hE.1 hE.2.1 h ht (k _ _ _ _ _ _ _ _ _ _ _ _ _ _ _ _ _ hE H locs ls hP hD hS hl)
theorem ev_ifnull {off : Int} {x : Nat} (h : decode μ.2.1 pc = .ok (.ifnull off, 3)) (k : Ev N d μ X (pc + 3) L S M P) : Ev N d μ X pc L (.ref x :: S) M P := by
  intro p l e R s m args below meth c cells slots Q A D cA ad hE H locs ls hP hD hS hl
  exact lv_ifnull hE.1 hE.2.1 h (k _ _ _ _ _ _ _ _ _ _ _ _ _ _ _ _ _ hE H locs ls hP hD hS hl)
theorem ev_ifnonnull {off : Int} {x : Nat} (tgt : Nat) (h : decode μ.2.1 pc = .ok (.ifnonnull off, 3)) (ht : (pc : Int) + off = (tgt : Int)) (k : Ev N d μ X tgt L S M P) : Ev N d μ X pc L (.ref x :: S) M P := by
  intro p l e R s m args below meth c cells slots Q A D cA ad hE H locs ls hP hD hS hl
  exact lv_ifnonnull hE.1 hE.2.1 h ht (k _ _ _ _ _ _ _ _ _ _ _ _ _ _ _ _ _ hE H locs ls hP hD hS hl)
theorem ev_tsw_in {dflt lo hi : Int} {offs : Array Int} {len : Nat} {x : Int32} {off : Int} (tgt : Nat) (h : decode μ.2.1 pc = .ok (.tableswitch dflt lo hi offs, len)) (h1 : ¬ x.toInt < lo) (h2 : ¬ hi < x.toInt) (ho : offs[(x.toInt - lo).toNat]? = some off) (ht : (pc : Int) + off = (tgt : Int)) (k : Ev N d μ X tgt L S M P) : Ev N d μ X pc L (.int x :: S) M P := by
  intro p l e R s m args below meth c cells slots Q A D cA ad hE H locs ls hP hD hS hl
  exact lv_tableIn hE.1 hE.2.1 h h1 h2 ho ht (k _ _ _ _ _ _ _ _ _ _ _ _ _ _ _ _ _ hE H locs ls hP hD hS hl)
theorem ev_tsw_out {dflt lo hi : Int} {offs : Array Int} {len : Nat} {x : Int32} (tgt : Nat) (h : decode μ.2.1 pc = .ok (.tableswitch dflt lo hi offs, len)) (h1 : x.toInt < lo ∨ hi < x.toInt) (ht : (pc : Int) + dflt = (tgt : Int)) (k : Ev N d μ X tgt L S M P) : Ev N d μ X pc L (.int x :: S) M P := by
  intro p l e R s m args below meth c cells slots Q A D cA ad hE H locs ls hP hD hS hl
  exact lv_tableOut hE.1 hE.2.1 h h1 ht (k _ _ _ _ _ _ _ _ _ _ _ _ _ _ _ _ _ hE H locs ls hP hD hS hl)
theorem ev_lsw {dflt : Int} {ps : Array (Int × Int)} {len : Nat} {x : Int32} {off : Int} (tgt : Nat) (h : decode μ.2.1 pc = .ok (.lookupswitch dflt ps, len)) (hp : (ps.toList.zip (ps.toList.drop 1)).all (fun (a, next) => a.1 < next.1) = true) (ho : Op.lookupswitch.offset ps.toList dflt x.toInt = off) (ht : (pc : Int) + off = (tgt : Int)) (k : Ev N d μ X tgt L S M P) : Ev N d μ X pc L (.int x :: S) M P := by
  intro p l e R s m args below meth c cells slots Q A D cA ad hE H locs ls hP hD hS hl
  exact lv_lookup hE.1 hE.2.1 h hp ho ht (k _ _ _ _ _ _ _ _ _ _ _ _ _ _ _ _ _ hE H locs ls hP hD hS hl)
theorem ev_ldc_w {idx : Nat} {v : Int32} (h : decode μ.2.1 pc = .ok (.ldc_w idx, 3)) (hw : Cond.constant μ.1.cls idx v ∈ e_big) (k : Ev N d μ X (pc + 3) L (.int v :: S) M P) : Ev N d μ X pc L S M P := by
  intro p l e R s m args below meth c cells slots Q A D cA ad hE H locs ls hP hD hS hl
  exact lv_ldcw hE.1 hE.2.1 hE.2.2.2.1 (hE.2.2.2.2.1 _ hw) h (k _ _ _ _ _ _ _ _ _ _ _ _ _ _ _ _ _ hE H locs ls hP hD hS hl)
theorem ev_ldc2_w {idx : Nat} {v : Int64} (h : decode μ.2.1 pc = .ok (.ldc2_w idx, 3)) (hw : Cond.constantLong μ.1.cls idx v ∈ e_big) (k : Ev N d μ X (pc + 3) L (.long v :: S) M P) : Ev N d μ X pc L S M P := by
  intro p l e R s m args below meth c cells slots Q A D cA ad hE H locs ls hP hD hS hl
  exact lv_ldc2 hE.1 hE.2.1 hE.2.2.2.1 (hE.2.2.2.2.1 _ hw) h (k _ _ _ _ _ _ _ _ _ _ _ _ _ _ _ _ _ hE H locs ls hP hD hS hl)
theorem ev_iaload {q n : Nat} {f : Nat → Int32} {i : Int32} (h : decode μ.2.1 pc = .ok (.iaload, 1)) (hk : q < N) (hM : M q = .inl (0, n, .inl f)) (hi : vp_in i n) (k : Ev N d μ X (pc + 1) L (.int (f i.toNatClampNeg) :: S) M P) : Ev N d μ X pc L (.int i :: .ref q :: S) M P := by
  intro p l e R s m args below meth c cells slots Q A D cA ad hE H locs ls hP hD hS hl
  obtain ⟨hx, hb, hml, hown, hts, hN, hK, hA, hR, hX, hRet⟩ := id hE
  exact va_iald hx hb hK hP q 0 (e_w_atc hk hM) rfl hi h (k _ _ _ _ _ _ _ _ _ _ _ _ _ _ _ _ _ hE H locs ls hP hD hS hl)
theorem ev_ialoadN {q n j : Nat} {f : Nat → Int32} (h : decode μ.2.1 pc = .ok (.iaload, 1)) (hk : q < N) (hM : M q = .inl (0, n, .inl f)) (hj : j < n) (hn : n < 2 ^ 31) (k : Ev N d μ X (pc + 1) L (.int (f j) :: S) M P) : Ev N d μ X pc L (.int (nI j) :: .ref q :: S) M P := by
  refine ev_iaload h hk hM (vp_in_nI hj hn) ?_
  rw [nI_clamp (Nat.lt_trans hj hn)]
  exact k
theorem ev_iastore {q n : Nat} {f : Nat → Int32} {i x : Int32} (h : decode μ.2.1 pc = .ok (.iastore, 1)) (hk : q < N) (hM : M q = .inl (0, n, .inl f)) (hi : vp_in i n) (k : Ev N d μ X (pc + 1) L S (mu M q (.inl (0, n, .inl (upd f i.toNatClampNeg (x))))) P) : Ev N d μ X pc L (.int x :: .int i :: .ref q :: S) M P := by
  intro p l e R s m args below meth c cells slots Q A D cA ad hE H locs ls hP hD hS hl
  obtain ⟨hx, hb, hml, hown, hts, hN, hK, hA, hR, hX, hRet⟩ := id hE
  have e0 := e_w_set (N := N) (ad := ad) (cA := cA) (M := M) (k := q) (.inl (0, n, .inl (upd f i.toNatClampNeg (x))))
  exact va_iast hx hb hK hP hD hS q 0 (e_w_atc hk hM) rfl hi h (fun H1 locs1 hP1 hD1 hS1 => k _ _ _ _ _ _ _ _ _ _ _ _ _ _ _ _ _ hE H1 locs1 ls (e0 ▸ hP1) (e0 ▸ hD1) hS1 hl)
theorem ev_iastoreN {q n j : Nat} {f : Nat → Int32} {x : Int32} (h : decode μ.2.1 pc = .ok (.iastore, 1)) (hk : q < N) (hM : M q = .inl (0, n, .inl f)) (hj : j < n) (hn : n < 2 ^ 31) (k : Ev N d μ X (pc + 1) L S (mu M q (.inl (0, n, .inl (upd f j (x))))) P) : Ev N d μ X pc L (.int x :: .int (nI j) :: .ref q :: S) M P := by
  refine ev_iastore h hk hM (vp_in_nI hj hn) ?_
  rw [nI_clamp (Nat.lt_trans hj hn)]
  exact k
theorem ev_baload {q n : Nat} {f : Nat → Int32} {i : Int32} (h : decode μ.2.1 pc = .ok (.baload, 1)) (hk : q < N) (hM : M q = .inl (1, n, .inl f)) (hi : vp_in i n) (k : Ev N d μ X (pc + 1) L (.int (f i.toNatClampNeg) :: S) M P) : Ev N d μ X pc L (.int i :: .ref q :: S) M P := by
  intro p l e R s m args below meth c cells slots Q A D cA ad hE H locs ls hP hD hS hl
  obtain ⟨hx, hb, hml, hown, hts, hN, hK, hA, hR, hX, hRet⟩ := id hE
  exact va_zald hx hb hK hP q 1 (e_w_atc hk hM) rfl hi h (k _ _ _ _ _ _ _ _ _ _ _ _ _ _ _ _ _ hE H locs ls hP hD hS hl)
theorem ev_baloadN {q n j : Nat} {f : Nat → Int32} (h : decode μ.2.1 pc = .ok (.baload, 1)) (hk : q < N) (hM : M q = .inl (1, n, .inl f)) (hj : j < n) (hn : n < 2 ^ 31) (k : Ev N d μ X (pc + 1) L (.int (f j) :: S) M P) : Ev N d μ X pc L (.int (nI j) :: .ref q :: S) M P := by
  refine ev_baload h hk hM (vp_in_nI hj hn) ?_
  rw [nI_clamp (Nat.lt_trans hj hn)]
  exact k
theorem ev_bastore {q n : Nat} {f : Nat → Int32} {i x : Int32} (h : decode μ.2.1 pc = .ok (.bastore, 1)) (hk : q < N) (hM : M q = .inl (1, n, .inl f)) (hi : vp_in i n) (k : Ev N d μ X (pc + 1) L S (mu M q (.inl (1, n, .inl (upd f i.toNatClampNeg (vp_nar .boolean x))))) P) : Ev N d μ X pc L (.int x :: .int i :: .ref q :: S) M P := by
  intro p l e R s m args below meth c cells slots Q A D cA ad hE H locs ls hP hD hS hl
  obtain ⟨hx, hb, hml, hown, hts, hN, hK, hA, hR, hX, hRet⟩ := id hE
  have e0 := e_w_set (N := N) (ad := ad) (cA := cA) (M := M) (k := q) (.inl (1, n, .inl (upd f i.toNatClampNeg (vp_nar .boolean x))))
  exact va_zast hx hb hK hP hD hS q 1 (e_w_atc hk hM) rfl hi h (fun H1 locs1 hP1 hD1 hS1 => k _ _ _ _ _ _ _ _ _ _ _ _ _ _ _ _ _ hE H1 locs1 ls (e0 ▸ hP1) (e0 ▸ hD1) hS1 hl)
theorem ev_bastoreN {q n j : Nat} {f : Nat → Int32} {x : Int32} (h : decode μ.2.1 pc = .ok (.bastore, 1)) (hk : q < N) (hM : M q = .inl (1, n, .inl f)) (hj : j < n) (hn : n < 2 ^ 31) (k : Ev N d μ X (pc + 1) L S (mu M q (.inl (1, n, .inl (upd f j (vp_nar .boolean x))))) P) : Ev N d μ X pc L (.int x :: .int (nI j) :: .ref q :: S) M P := by
  refine ev_bastore h hk hM (vp_in_nI hj hn) ?_
  rw [nI_clamp (Nat.lt_trans hj hn)]
  exact k
theorem ev_aaload {q n r : Nat} {g : Nat → Option Nat} {i : Int32} (h : decode μ.2.1 pc = .ok (.aaload, 1)) (hk : q < N) (hM : M q = .inl (2, n, .inr g)) (hi : vp_in i n) (hg : g i.toNatClampNeg = some r) (k : Ev N d μ X (pc + 1) L (.ref r :: S) M P) : Ev N d μ X pc L (.int i :: .ref q :: S) M P := by
  intro p l e R s m args below meth c cells slots Q A D cA ad hE H locs ls hP hD hS hl
  obtain ⟨hx, hb, hml, hown, hts, hN, hK, hA, hR, hX, hRet⟩ := id hE
  have e0 : va_rf ((g i.toNatClampNeg).map ad) = .ref (ad r) := by rw [hg]; rfl
  exact va_aldq hx hb hK hP q 2 (C := "BlottedFirst$Sheet") (e_w_atc hk hM) rfl hi h (by rw [e0]; exact (k _ _ _ _ _ _ _ _ _ _ _ _ _ _ _ _ _ hE H locs ls hP hD hS hl))
theorem ev_arraylength {q n : Nat} {f : Nat → Int32} {v : Int32} (h : decode μ.2.1 pc = .ok (.arraylength, 1)) (hk : q < N) (hM : M q = .inl (0, n, .inl f)) (hv : Int32.ofNat n = v) (k : Ev N d μ X (pc + 1) L (.int v :: S) M P) : Ev N d μ X pc L (.ref q :: S) M P := by
  intro p l e R s m args below meth c cells slots Q A D cA ad hE H locs ls hP hD hS hl
  obtain ⟨hx, hb, hml, hown, hts, hN, hK, hA, hR, hX, hRet⟩ := id hE
  exact va_alen hx hb hK hP q 0 (e_w_atc hk hM) (ty := .int) rfl hv h (k _ _ _ _ _ _ _ _ _ _ _ _ _ _ _ _ _ hE H locs ls hP hD hS hl)
theorem ev_sld {Ls : Nat} {xs : Nat → Int32} {i : Int32} (h : decode μ.2.1 pc = .ok (.iaload, 1)) (hX : X = some (Ls, xs)) (hi : vp_in i Ls) (k : Ev N d μ X (pc + 1) L (.int (xs i.toNatClampNeg) :: S) M P) : Ev N d μ X pc L (.int i :: .ref 1000 :: S) M P := by
  intro p l e R s m args below meth c cells slots Q A D cA ad hE H locs ls hP hD hS hl
  obtain ⟨hx, hb, hml, hown, hts, hN, hK, hA, hR, hX1, hRet⟩ := id hE
  obtain ⟨x1, x2, x3⟩ := hX1 _ _ hX
  exact va_sld hx hb x1 x2 x3 hS hi h (k _ _ _ _ _ _ _ _ _ _ _ _ _ _ _ _ _ hE H locs ls hP hD hS hl)
theorem ev_slen {Ls : Nat} {xs : Nat → Int32} (h : decode μ.2.1 pc = .ok (.arraylength, 1)) (hX : X = some (Ls, xs)) (k : Ev N d μ X (pc + 1) L (.int (Int32.ofNat Ls) :: S) M P) : Ev N d μ X pc L (.ref 1000 :: S) M P := by
  intro p l e R s m args below meth c cells slots Q A D cA ad hE H locs ls hP hD hS hl
  obtain ⟨hx, hb, hml, hown, hts, hN, hK, hA, hR, hX1, hRet⟩ := id hE
  obtain ⟨x1, x2, x3⟩ := hX1 _ _ hX
  exact va_slen hx hb x1 x2 x3 hS h (k _ _ _ _ _ _ _ _ _ _ _ _ _ _ _ _ _ hE H locs ls hP hD hS hl)
set_option maxRecDepth 20000 in
theorem inlX0 : ∀ w ∈ wsX00, w ∈ e_big := (show ∀ w ∈ ([Cond.laysFinal "BlottedFirst$Acts" "BlottedFirst$Acts" "before" "[LBlottedFirst$Sheet;", Cond.lays "BlottedFirst$Acts" "BlottedFirst$Acts" "first" "I", Cond.lays "BlottedFirst$Acts" "BlottedFirst$Acts" "count" "I"] : List Cond), w ∈ e_big from List.forall_mem_cons.mpr ⟨e_bg (e_in1 101 rfl) rfl, List.forall_mem_cons.mpr ⟨e_bg (e_in1 103 rfl) rfl, List.forall_mem_cons.mpr ⟨e_bg (e_in1 105 rfl) rfl, fun _ h => absurd h List.not_mem_nil⟩⟩⟩)
set_option maxRecDepth 20000 in
theorem inlX1 : ∀ w ∈ wsX10, w ∈ e_big := (show ∀ w ∈ ([Cond.laysFinal "BlottedFirst$Letters" "BlottedFirst$Letters" "place" "[I", Cond.laysFinal "BlottedFirst$Letters" "BlottedFirst$Letters" "hand" "[I", Cond.laysFinal "BlottedFirst$Letters" "BlottedFirst$Letters" "force" "[I", Cond.laysFinal "BlottedFirst$Letters" "BlottedFirst$Letters" "cells" "[I", Cond.lays "BlottedFirst$Letters" "BlottedFirst$Letters" "count" "I"] : List Cond), w ∈ e_big from List.forall_mem_cons.mpr ⟨e_bg (e_in1 47 rfl) rfl, List.forall_mem_cons.mpr ⟨e_bg (e_in1 49 rfl) rfl, List.forall_mem_cons.mpr ⟨e_bg (e_in1 51 rfl) rfl, List.forall_mem_cons.mpr ⟨e_bg (e_in1 53 rfl) rfl, List.forall_mem_cons.mpr ⟨e_bg (e_in1 55 rfl) rfl, fun _ h => absurd h List.not_mem_nil⟩⟩⟩⟩⟩)
set_option maxRecDepth 20000 in
theorem inlX2 : ∀ w ∈ wsX20, w ∈ e_big := (show ∀ w ∈ ([Cond.laysFinal "BlottedFirst$Over" "BlottedFirst$Over" "upper" "[I", Cond.laysFinal "BlottedFirst$Over" "BlottedFirst$Over" "lower" "[I", Cond.laysFinal "BlottedFirst$Over" "BlottedFirst$Over" "ways" "[I", Cond.lays "BlottedFirst$Over" "BlottedFirst$Over" "count" "I"] : List Cond), w ∈ e_big from List.forall_mem_cons.mpr ⟨e_bg (e_in1 119 rfl) rfl, List.forall_mem_cons.mpr ⟨e_bg (e_in1 121 rfl) rfl, List.forall_mem_cons.mpr ⟨e_bg (e_in1 123 rfl) rfl, List.forall_mem_cons.mpr ⟨e_bg (e_in1 125 rfl) rfl, fun _ h => absurd h List.not_mem_nil⟩⟩⟩⟩)
set_option maxRecDepth 20000 in
theorem inlX3 : ∀ w ∈ wsX30, w ∈ e_big := (show ∀ w ∈ ([Cond.laysFinal "BlottedFirst$Sheet" "BlottedFirst$Sheet" "ink" "[I", Cond.laysFinal "BlottedFirst$Sheet" "BlottedFirst$Sheet" "top" "[I", Cond.lays "BlottedFirst$Sheet" "BlottedFirst$Sheet" "date" "I"] : List Cond), w ∈ e_big from List.forall_mem_cons.mpr ⟨e_bg (e_in1 81 rfl) rfl, List.forall_mem_cons.mpr ⟨e_bg (e_in1 83 rfl) rfl, List.forall_mem_cons.mpr ⟨e_bg (e_in1 85 rfl) rfl, fun _ h => absurd h List.not_mem_nil⟩⟩⟩)
set_option maxRecDepth 20000 in
theorem inlX4 : ∀ w ∈ wsX40, w ∈ e_big := (show ∀ w ∈ ([Cond.laysFinal "BlottedFirst$Slots" "BlottedFirst$Slots" "kept" "[LBlottedFirst$Sheet;", Cond.lays "BlottedFirst$Slots" "BlottedFirst$Slots" "filled" "I"] : List Cond), w ∈ e_big from List.forall_mem_cons.mpr ⟨e_bg (e_in1 138 rfl) rfl, List.forall_mem_cons.mpr ⟨e_bg (e_in1 140 rfl) rfl, fun _ h => absurd h List.not_mem_nil⟩⟩)
set_option maxRecDepth 20000 in
theorem inlX5 : ∀ w ∈ wsX50, w ∈ e_big := (show ∀ w ∈ ([Cond.laysFinal "BlottedFirst$Text" "BlottedFirst$Text" "bytes" "[I", Cond.lays "BlottedFirst$Text" "BlottedFirst$Text" "length" "I"] : List Cond), w ∈ e_big from List.forall_mem_cons.mpr ⟨e_bg (e_in1 29 rfl) rfl, List.forall_mem_cons.mpr ⟨e_bg (e_in1 31 rfl) rfl, fun _ h => absurd h List.not_mem_nil⟩⟩)
set_option maxRecDepth 20000 in
theorem inlX6 : ∀ w ∈ wsX60, w ∈ e_big := (show ∀ w ∈ ([Cond.laysFinal "BlottedFirst$Times" "BlottedFirst$Times" "often" "[I"] : List Cond), w ∈ e_big from List.forall_mem_cons.mpr ⟨e_bg (e_in1 150 rfl) rfl, fun _ h => absurd h List.not_mem_nil⟩)
set_option maxRecDepth 20000 in
theorem inlX7 : ∀ w ∈ wsX70, w ∈ e_big := (show ∀ w ∈ ([Cond.laysFinal "BlottedFirst" "BlottedFirst" "text" "LBlottedFirst$Text;", Cond.laysFinal "BlottedFirst" "BlottedFirst" "letters" "LBlottedFirst$Letters;", Cond.laysFinal "BlottedFirst" "BlottedFirst" "sheet" "LBlottedFirst$Sheet;", Cond.laysFinal "BlottedFirst" "BlottedFirst" "trial" "LBlottedFirst$Sheet;", Cond.laysFinal "BlottedFirst" "BlottedFirst" "acts" "LBlottedFirst$Acts;", Cond.laysFinal "BlottedFirst" "BlottedFirst" "over" "LBlottedFirst$Over;", Cond.laysFinal "BlottedFirst" "BlottedFirst" "slots" "LBlottedFirst$Slots;", Cond.laysFinal "BlottedFirst" "BlottedFirst" "times" "LBlottedFirst$Times;", Cond.lays "BlottedFirst" "BlottedFirst" "theSeed" "J"] : List Cond), w ∈ e_big from List.forall_mem_cons.mpr ⟨e_bg (e_in1 162 rfl) rfl, List.forall_mem_cons.mpr ⟨e_bg (e_in1 164 rfl) rfl, List.forall_mem_cons.mpr ⟨e_bg (e_in1 166 rfl) rfl, List.forall_mem_cons.mpr ⟨e_bg (e_in1 168 rfl) rfl, List.forall_mem_cons.mpr ⟨e_bg (e_in1 170 rfl) rfl, List.forall_mem_cons.mpr ⟨e_bg (e_in1 172 rfl) rfl, List.forall_mem_cons.mpr ⟨e_bg (e_in1 174 rfl) rfl, List.forall_mem_cons.mpr ⟨e_bg (e_in1 176 rfl) rfl, List.forall_mem_cons.mpr ⟨e_bg (e_in1 178 rfl) rfl, fun _ h => absurd h List.not_mem_nil⟩⟩⟩⟩⟩⟩⟩⟩⟩)
set_option maxRecDepth 20000 in
theorem inlX8 : ∀ w ∈ wsX80, w ∈ e_big := (show ∀ w ∈ ([Cond.lays "BlottedFirstModel" "BlottedFirstModel" "thrown" "I", Cond.laysFinal "BlottedFirstModel" "BlottedFirstModel" "text" "[I", Cond.lays "BlottedFirstModel" "BlottedFirstModel" "textSize" "I", Cond.lays "BlottedFirstModel" "BlottedFirstModel" "place" "I", Cond.lays "BlottedFirstModel" "BlottedFirstModel" "letters" "I", Cond.laysFinal "BlottedFirstModel" "BlottedFirstModel" "at" "[I", Cond.laysFinal "BlottedFirstModel" "BlottedFirstModel" "hand" "[I", Cond.laysFinal "BlottedFirstModel" "BlottedFirstModel" "force" "[I", Cond.laysFinal "BlottedFirstModel" "BlottedFirstModel" "its" "[I", Cond.lays "BlottedFirstModel" "BlottedFirstModel" "readLetters" "I", Cond.laysFinal "BlottedFirstModel" "BlottedFirstModel" "readLetter" "[I", Cond.laysFinal "BlottedFirstModel" "BlottedFirstModel" "page" "[I", Cond.laysFinal "BlottedFirstModel" "BlottedFirstModel" "trial" "[I", Cond.laysFinal "BlottedFirstModel" "BlottedFirstModel" "book" "[I", Cond.lays "BlottedFirstModel" "BlottedFirstModel" "acts" "I", Cond.laysFinal "BlottedFirstModel" "BlottedFirstModel" "kept" "[I", Cond.laysFinal "BlottedFirstModel" "BlottedFirstModel" "isKept" "[Z", Cond.lays "BlottedFirstModel" "BlottedFirstModel" "over" "I", Cond.laysFinal "BlottedFirstModel" "BlottedFirstModel" "overOne" "[I", Cond.laysFinal "BlottedFirstModel" "BlottedFirstModel" "overTwo" "[I", Cond.lays "BlottedFirstModel" "BlottedFirstModel" "seed" "J", Cond.lays "BlottedFirstModel" "BlottedFirstModel" "foundMany" "I", Cond.lays "BlottedFirstModel" "BlottedFirstModel" "foundAll" "I", Cond.lays "BlottedFirstModel" "BlottedFirstModel" "foundNone" "I", Cond.lays "BlottedFirstModel" "BlottedFirstModel" "foundFirst" "I", Cond.laysFinal "BlottedFirstModel" "BlottedFirstModel" "value" "[I", Cond.laysFinal "BlottedFirstModel" "BlottedFirstModel" "order" "[I"] : List Cond), w ∈ e_big from List.forall_mem_cons.mpr ⟨e_bg (e_in3 114 rfl) rfl, List.forall_mem_cons.mpr ⟨e_bg (e_in3 116 rfl) rfl, List.forall_mem_cons.mpr ⟨e_bg (e_in3 118 rfl) rfl, List.forall_mem_cons.mpr ⟨e_bg (e_in3 120 rfl) rfl, List.forall_mem_cons.mpr ⟨e_bg (e_in3 122 rfl) rfl, List.forall_mem_cons.mpr ⟨e_bg (e_in3 124 rfl) rfl, List.forall_mem_cons.mpr ⟨e_bg (e_in3 126 rfl) rfl, List.forall_mem_cons.mpr ⟨e_bg (e_in3 128 rfl) rfl, List.forall_mem_cons.mpr ⟨e_bg (e_in3 130 rfl) rfl, List.forall_mem_cons.mpr ⟨e_bg (e_in3 132 rfl) rfl, List.forall_mem_cons.mpr ⟨e_bg (e_in3 134 rfl) rfl, List.forall_mem_cons.mpr ⟨e_bg (e_in3 136 rfl) rfl, List.forall_mem_cons.mpr ⟨e_bg (e_in3 138 rfl) rfl, List.forall_mem_cons.mpr ⟨e_bg (e_in3 140 rfl) rfl, List.forall_mem_cons.mpr ⟨e_bg (e_in3 142 rfl) rfl, List.forall_mem_cons.mpr ⟨e_bg (e_in3 144 rfl) rfl, List.forall_mem_cons.mpr ⟨e_bg (e_in3 146 rfl) rfl, List.forall_mem_cons.mpr ⟨e_bg (e_in3 148 rfl) rfl, List.forall_mem_cons.mpr ⟨e_bg (e_in3 150 rfl) rfl, List.forall_mem_cons.mpr ⟨e_bg (e_in3 152 rfl) rfl, List.forall_mem_cons.mpr ⟨e_bg (e_in3 154 rfl) rfl, List.forall_mem_cons.mpr ⟨e_bg (e_in3 156 rfl) rfl, List.forall_mem_cons.mpr ⟨e_bg (e_in3 158 rfl) rfl, List.forall_mem_cons.mpr ⟨e_bg (e_in3 160 rfl) rfl, List.forall_mem_cons.mpr ⟨e_bg (e_in3 162 rfl) rfl, List.forall_mem_cons.mpr ⟨e_bg (e_in3 164 rfl) rfl, List.forall_mem_cons.mpr ⟨e_bg (e_in3 166 rfl) rfl, fun _ h => absurd h List.not_mem_nil⟩⟩⟩⟩⟩⟩⟩⟩⟩⟩⟩⟩⟩⟩⟩⟩⟩⟩⟩⟩⟩⟩⟩⟩⟩⟩⟩)
def e_lnk (own : String) (idx : Nat) (r : vw_C) (j : Nat) : Prop := (Cond.fieldLink own idx (r.2.1 j).1 (r.2.1 j).2.1 (r.2.1 j).2.2.1) ∈ e_big ∨ ∃ h, Cond.fieldLinkNest own idx (r.2.1 j).1 (r.2.1 j).2.1 (r.2.1 j).2.2.1 h ∈ e_nst
def e_fld (own : String) (idx ci j : Nat) : Prop := ∃ r : vw_C, vwCl[ci]? = some r ∧ j < r.2.2 ∧ e_lnk own idx r j
def e_fldw (own : String) (idx ci j : Nat) (ty : FieldType) : Prop := ∃ r : vw_C, vwCl[ci]? = some r ∧ j < r.2.2 ∧ e_lnk own idx r j ∧ (r.2.1 j).2.2.2 = false ∧ parseFieldDescriptor (r.2.1 j).2.2.1 = some ty
theorem e_cls {ci : Nat} {r : vw_C} (h : vwCl[ci]? = some r) : (∀ w ∈ u_ws r.1 r.2.1 r.2.2, w ∈ e_big) ∧ (∃ ty0 : Nat → FieldType, ∀ k, k < r.2.2 → parseFieldDescriptor (r.2.1 k).2.2.1 = some (ty0 k)) ∧ (∀ a, a < r.2.2 → ∀ b, b < r.2.2 → a ≠ b → (r.2.1 a).2.1 ≠ (r.2.1 b).2.1) := by
  match ci, h with
  | 0, h => cases h; exact ⟨inlX0, ⟨tyX0, tyX0_ok⟩, nmX0⟩
  | 1, h => cases h; exact ⟨inlX1, ⟨tyX1, tyX1_ok⟩, nmX1⟩
  | 2, h => cases h; exact ⟨inlX2, ⟨tyX2, tyX2_ok⟩, nmX2⟩
  | 3, h => cases h; exact ⟨inlX3, ⟨tyX3, tyX3_ok⟩, nmX3⟩
  | 4, h => cases h; exact ⟨inlX4, ⟨tyX4, tyX4_ok⟩, nmX4⟩
  | 5, h => cases h; exact ⟨inlX5, ⟨tyX5, tyX5_ok⟩, nmX5⟩
  | 6, h => cases h; exact ⟨inlX6, ⟨tyX6, tyX6_ok⟩, nmX6⟩
  | 7, h => cases h; exact ⟨inlX7, ⟨tyX7, tyX7_ok⟩, nmX7⟩
  | 8, h => cases h; exact ⟨inlX8, ⟨tyX8, tyX8_ok⟩, nmX8⟩
  | i + 9, h => simp [vwCl] at h
theorem ev_getfield {idx ci j q : Nat} {fs : List Value} {v : Value} (h : decode μ.2.1 pc = .ok (.getfield idx, 3)) (hf : e_fld μ.1.cls idx ci j) (hk : q < N) (hM : M q = .inr (ci, fs)) (hv : fs[j]? = some v) (k : Ev N d μ X (pc + 3) L (v :: S) M P) : Ev N d μ X pc L (.ref q :: S) M P := by
  intro p l e R s m args below meth c cells slots Q A D cA ad hE H locs ls hP hD hS hl
  obtain ⟨hx, hb, hml, hown, hts, hN, hK, hA, hR, hX, hRet⟩ := id hE
  obtain ⟨r, hr, hj, hlk⟩ := hf
  obtain ⟨h1, -, h3⟩ := e_cls hr
  have hv1 : (fs.map (e_v ad))[j]? = some (e_v ad v) := by rw [List.getElem?_map, hv]; rfl
  rcases hlk with hlk | ⟨hst, hlk⟩
  · exact va_get (C := r.1) (T := r.2.1) (N := r.2.2) hx hb hts h1 hown hK hP q (e_w_atc hk hM) hr j hj (hts _ hlk) (fun _ z => z) hv1 h (k _ _ _ _ _ _ _ _ _ _ _ _ _ _ _ _ _ hE H locs ls hP hD hS hl)
  · exact va_getN (C := r.1) (T := r.2.1) (N := r.2.2) hx hb hts h1 hown hK hP q (e_w_atc hk hM) hr j hj (va_Nw.use rfl (hN _ hlk)) (fun _ z => z) hv1 h (k _ _ _ _ _ _ _ _ _ _ _ _ _ _ _ _ _ hE H locs ls hP hD hS hl)
theorem ev_putI {idx ci j q : Nat} {fs : List Value} {x : Int32} (h : decode μ.2.1 pc = .ok (.putfield idx, 3)) (hf : e_fldw μ.1.cls idx ci j .int) (hk : q < N) (hM : M q = .inr (ci, fs)) (hjl : j < fs.length) (k : Ev N d μ X (pc + 3) L S (mu M q (.inr (ci, fs.set j (.int x)))) P) : Ev N d μ X pc L (.int x :: .ref q :: S) M P := by
  intro p l e R s m args below meth c cells slots Q A D cA ad hE H locs ls hP hD hS hl
  obtain ⟨hx, hb, hml, hown, hts, hN, hK, hA, hR, hX, hRet⟩ := id hE
  obtain ⟨r, hr, hj, hlk, hfin, hty⟩ := hf
  obtain ⟨h1, ⟨ty0, h2⟩, h3⟩ := e_cls hr
  have e0 : (e_w N ad cA M).set q (ad q, .inr (ci, (fs.map (e_v ad)).set j (.int x))) = e_w N ad cA (mu M q (.inr (ci, fs.set j (.int x)))) := by
    rw [← e_w_set]
    show _ = (e_w N ad cA M).set q (ad q, .inr (ci, (fs.set j (.int x)).map (e_v ad)))
    rw [List.map_set]
    rfl
  have hl9 : j < (fs.map (e_v ad)).length := by rw [List.length_map]; exact hjl
  rcases hlk with hlk | ⟨hst, hlk⟩
  · exact va_put (C := r.1) (T := r.2.1) (N := r.2.2) hx hb hts h1 ty0 h2 h3 hown hK hP hD hS q (e_w_atc hk hM) hr j hj (hts _ hlk) (fun _ z => z) hfin hty rfl rfl hl9 h (fun H1 locs1 hP1 hD1 hS1 => k _ _ _ _ _ _ _ _ _ _ _ _ _ _ _ _ _ hE H1 locs1 ls (e0 ▸ hP1) (e0 ▸ hD1) hS1 hl)
  · exact va_putN (C := r.1) (T := r.2.1) (N := r.2.2) hx hb hts h1 ty0 h2 h3 hown hK hP hD hS q (e_w_atc hk hM) hr j hj (va_Nw.use rfl (hN _ hlk)) (fun _ z => z) hfin hty rfl rfl hl9 h (fun H1 locs1 hP1 hD1 hS1 => k _ _ _ _ _ _ _ _ _ _ _ _ _ _ _ _ _ hE H1 locs1 ls (e0 ▸ hP1) (e0 ▸ hD1) hS1 hl)
theorem ev_putJ {idx ci j q : Nat} {fs : List Value} {x : Int64} (h : decode μ.2.1 pc = .ok (.putfield idx, 3)) (hf : e_fldw μ.1.cls idx ci j .long) (hk : q < N) (hM : M q = .inr (ci, fs)) (hjl : j < fs.length) (k : Ev N d μ X (pc + 3) L S (mu M q (.inr (ci, fs.set j (.long x)))) P) : Ev N d μ X pc L (.long x :: .ref q :: S) M P := by
  intro p l e R s m args below meth c cells slots Q A D cA ad hE H locs ls hP hD hS hl
  obtain ⟨hx, hb, hml, hown, hts, hN, hK, hA, hR, hX, hRet⟩ := id hE
  obtain ⟨r, hr, hj, hlk, hfin, hty⟩ := hf
  obtain ⟨h1, ⟨ty0, h2⟩, h3⟩ := e_cls hr
  have e0 : (e_w N ad cA M).set q (ad q, .inr (ci, (fs.map (e_v ad)).set j (.long x))) = e_w N ad cA (mu M q (.inr (ci, fs.set j (.long x)))) := by
    rw [← e_w_set]
    show _ = (e_w N ad cA M).set q (ad q, .inr (ci, (fs.set j (.long x)).map (e_v ad)))
    rw [List.map_set]
    rfl
  have hl9 : j < (fs.map (e_v ad)).length := by rw [List.length_map]; exact hjl
  rcases hlk with hlk | ⟨hst, hlk⟩
  · exact va_put (C := r.1) (T := r.2.1) (N := r.2.2) hx hb hts h1 ty0 h2 h3 hown hK hP hD hS q (e_w_atc hk hM) hr j hj (hts _ hlk) (fun _ z => z) hfin hty rfl rfl hl9 h (fun H1 locs1 hP1 hD1 hS1 => k _ _ _ _ _ _ _ _ _ _ _ _ _ _ _ _ _ hE H1 locs1 ls (e0 ▸ hP1) (e0 ▸ hD1) hS1 hl)
  · exact va_putN (C := r.1) (T := r.2.1) (N := r.2.2) hx hb hts h1 ty0 h2 h3 hown hK hP hD hS q (e_w_atc hk hM) hr j hj (va_Nw.use rfl (hN _ hlk)) (fun _ z => z) hfin hty rfl rfl hl9 h (fun H1 locs1 hP1 hD1 hS1 => k _ _ _ _ _ _ _ _ _ _ _ _ _ _ _ _ _ hE H1 locs1 ls (e0 ▸ hP1) (e0 ▸ hD1) hS1 hl)
theorem ev_ret0 (h : decode μ.2.1 pc = .ok (.return_, 1)) (hr : μ.2.2.2 = none) (hp : P none M) : Ev N d μ X pc L [] M P := by
  intro p l e R s m args below meth c cells slots Q A D cA ad hE H locs ls hP hD hS hl
  obtain ⟨hx, hb, hml, hown, hts, hN, hK, hA, hR, hX, hRet⟩ := id hE
  exact hRet none M H locs ls pc hp ⟨h, hr⟩ hP hD hS
theorem ev_reti {ty : FieldType} {v : Int32} (h : decode μ.2.1 pc = .ok (.ireturn, 1)) (hr : μ.2.2.2 = some ty) (hn : narrow ty (.int v) = .int v) (hp : P (some (.int v)) M) : Ev N d μ X pc L [.int v] M P := by
  intro p l e R s m args below meth c cells slots Q A D cA ad hE H locs ls hP hD hS hl
  obtain ⟨hx, hb, hml, hown, hts, hN, hK, hA, hR, hX, hRet⟩ := id hE
  exact hRet (some (.int v)) M H locs ls pc hp ⟨h, ty, hr, hn⟩ hP hD hS
theorem ev_retl {v : Int64} (h : decode μ.2.1 pc = .ok (.lreturn, 1)) (hr : μ.2.2.2 = some .long) (hp : P (some (.long v)) M) : Ev N d μ X pc L [.long v] M P := by
  intro p l e R s m args below meth c cells slots Q A D cA ad hE H locs ls hP hD hS hl
  obtain ⟨hx, hb, hml, hown, hts, hN, hK, hA, hR, hX, hRet⟩ := id hE
  exact hRet (some (.long v)) M H locs ls pc hp ⟨h, hr⟩ hP hD hS
theorem ev_reta {v : Nat} {n : String} (h : decode μ.2.1 pc = .ok (.areturn, 1)) (hr : μ.2.2.2 = some (.object n)) (hp : P (some (.ref v)) M) : Ev N d μ X pc L [.ref v] M P := by
  intro p l e R s m args below meth c cells slots Q A D cA ad hE H locs ls hP hD hS hl
  obtain ⟨hx, hb, hml, hown, hts, hN, hK, hA, hR, hX, hRet⟩ := id hE
  exact hRet (some (.ref v)) M H locs ls pc hp ⟨h, n, hr⟩ hP hD hS
theorem ev_mono {P1 : Option Value → mM → Prop} (hp : ∀ r M1, P1 r M1 → P r M1) (k : Ev N d μ X pc L S M P1) : Ev N d μ X pc L S M P := by
  intro p l e R s m args below meth c cells slots Q A D cA ad hE H locs ls hP hD hS hl
  obtain ⟨hx, hb, hml, hown, hts, hN, hK, hA, hR, hX, hRet⟩ := id hE
  exact k _ _ _ _ _ _ _ _ _ _ _ _ _ _ _ _ _ ⟨hx, hb, hml, hown, hts, hN, hK, hA, hR, hX, fun r M1 H1 locs1 ls1 pc1 h => hRet r M1 H1 locs1 ls1 pc1 (hp r M1 h)⟩ H locs ls hP hD hS hl
theorem ev_top {v u : Value} (h : v = u) (k : Ev N d μ X pc L (u :: S) M P) : Ev N d μ X pc L (v :: S) M P := h ▸ k
theorem ev_mem {M1 : mM} (h : M = M1) (k : Ev N d μ X pc L S M1 P) : Ev N d μ X pc L S M P := h ▸ k
theorem ev_loc {L1 : List Value} (h : L = L1) (k : Ev N d μ X pc L1 S M P) : Ev N d μ X pc L S M P := h ▸ k
theorem ev_pc {pc1 : Nat} (h : pc = pc1) (k : Ev N d μ X pc1 L S M P) : Ev N d μ X pc L S M P := h ▸ k
end EVR
/-! ===== calls ===== -/
def e_rm (d : Nat) : Room := { frames := d, cells := 0, slots := 0, locals := 33 * d }
def e_ws (μ : mI) : List Cond := .code μ.1 μ.2.1 μ.2.2.1 μ.2.2.2 :: e_big
def e_B (N : Nat) (D : va_G) (cA : Nat → ClassId) (ad : Nat → Nat) (A : Nat → Prop) (M : mM) (t : State) : Prop := va_P D vwCl (e_w N ad cA M) t.heap ∧ va_K D vwCl (e_tys cA) t ∧ va_D A (e_w N ad cA M)
def e_pre (N : Nat) (D : va_G) (cA : Nat → ClassId) (ad : Nat → Nat) (M : mM) (sz : Nat) (U : State) : Prop := U.heap.size = sz ∧ va_P D vwCl (e_w N ad cA M) U.heap ∧ va_K D vwCl (e_tys cA) U ∧ va_D (fun _ => True) (e_w N ad cA M) ∧ ∀ w ∈ e_nst, va_Nw w U
def e_Qc (N : Nat) (P : Option Value → mM → Prop) (D : va_G) (cA : Nat → ClassId) (ad : Nat → Nat) (A : Nat → Prop) : Array Value → State → Outcome → State → Prop := fun _ st oc t => (∃ (r : Option Value) (M : mM), oc = .returned (r.map (e_v ad)) ∧ P r M ∧ e_B N D cA ad A M t) ∧ va_F A st t
theorem e_pre_blind {N : Nat} {D : va_G} {cA : Nat → ClassId} {ad : Nat → Nat} {M : mM} {sz : Nat} (av : List Value) : FrameBlind (va_Pc av (e_pre N D cA ad M sz)) := fun a U g mk q => by
  obtain ⟨q0, q1, q2, q3, q4, q5⟩ := q
  exact ⟨q0, q1, q2, va_K.moved (u := U) (U := U.calling g mk a) (Vm.Alike.refl U.vm) q3, q4, e_nst_same (u := U) rfl q5⟩
set_option maxHeartbeats 4000000 in
theorem ev_met {N d : Nat} {μ : mI} {args : List Value} {M : mM} {P : Option Value → mM → Prop} (hpl : plainName μ.1.cls = true) (hfit : (e_sp args).length ≤ μ.2.2.1) (h : Ev N d μ none 0 (e_ent μ.2.2.1 args) [] M P) (l : Launch) (D : va_G) (cA : Nat → ClassId) (ad : Nat → Nat) (sz : Nat) :
    Met l μ.1 (e_ws μ) (e_rm d) (va_Pc (args.map (e_v ad)) (e_pre N D cA ad M sz)) (e_Qc N P D cA ad (va_A (e_w N ad cA M) sz)) 0 0 (va_A (e_w N ad cA M) sz) := by
  refine Met.ofW (cc := μ.2.1) (maxL := μ.2.2.1) (ret := μ.2.2.2) hpl rfl ?_
  intro p e s m args' below meth c s₁ B hml hv
  obtain ⟨rfl, hsz, hP, hK, hD0, hN⟩ := hv
  have hx := B.exec
  have hb := B.bytes
  have hrt := B.returns
  have hts := atoms_spec (ws := e_ws μ) B.pre
  have hown : s.vm.findClass μ.1.cls = some m.cls := findClass_of_methodNamed B.named
  have hlocks : meth.locks = false := B.notSynchronized
  subst hsz
  have hD := hD0.self (sz := s.heap.size)
  rw [lg_entry_eq]
  refine h p l e _ s m _ below meth c 0 0 _ (va_A (e_w N ad cA M) s.heap.size) D cA ad ⟨hx, hb, hml, hown, fun w hw => hts w (List.mem_cons_of_mem _ hw), hN, hK, fun q hq => Or.inr hq, ⟨Nat.le_refl _, Nat.le_refl _, Nat.zero_le _, Nat.zero_le _⟩, fun _ _ hX => (by cases hX), ?_⟩ s.heap [] _ hP hD va_S.rf (e_R_ent ad args hfit)
  intro r M1 H1 locs1 ls1 pc1 hp hr hP1 hD1 hS1
  have hq : ∀ t : State, t.heap = H1 → s.WarmedH t.vm → e_Qc N P D cA ad (va_A (e_w N ad cA M) s.heap.size) (args.map (e_v ad)).toArray s (.returned (r.map (e_v ad))) t := fun t ht hW => ⟨⟨r, M1, rfl, hp, by rw [ht]; exact hP1, va_K.moved hW.alike hK, hD1⟩, hS1.F ht⟩
  match r, hr, hq with
  | none, hr, hq => exact W.vret hx hb (hrt.trans hr.2) hq hS1.2.2 hr.1
  | some (.int v), hr, hq =>
    obtain ⟨h1, ty, h2, h3⟩ := hr
    exact W.zret hx hb (hrt.trans h2) h3 hq hS1.2.2 h1
  | some (.long v), hr, hq => exact W.lret hx hb (hrt.trans hr.2) hq hS1.2.2 hr.1
  | some (.ref v), hr, hq =>
    obtain ⟨h1, n, h2⟩ := hr
    exact W.aret hx hb (hrt.trans h2) (Or.inl ⟨n, rfl⟩) (Or.inr ⟨_, rfl⟩) hq hS1.2.2 h1
section EVC
variable {p : Program} {l : Launch} {e : Env} {R : Room} {s : State} {m : MethodId} {args : Array Value} {below : List Frame} {meth : Method} {c : Code} {H : Heap} {locs : List Loc} {cells slots : Nat} {Q : State → Prop}
variable {pc : Nat} {ls : Array Slot} {rest st0 : List Value} {a : Array Value} {A0 A1 : Nat → Prop} {H0 : Heap} {free : Addr → Prop}
theorem e_call {N : Nat} {P : Option Value → mM → Prop} {D : va_G} {cA : Nat → ClassId} {ad : Nat → Nat} (hr : va_Run p l e R s m args below meth c H locs cells slots 0 0 (F0 m pc ls st0) rest (e_Qc N P D cA ad A1 a) free) (hS : va_S A0 H0 H locs) (hA : ∀ q, q < H.size → A1 q → A0 q) (hf : ∀ q, free q → A0 q)
    (kk : ∀ (r : Option Value) (M : mM) (t : State) (H1 : Heap) (locs1 : List Loc), t.heap = H1 → P r M → e_B N D cA ad A1 M t → va_S A0 H0 H1 locs1 → W p l e R s m args below meth c H1 locs1 cells slots Q (F0 m (pc + 3) ls ((r.map (e_v ad)).toList ++ rest))) : W p l e R s m args below meth c H locs cells slots Q (F0 m pc ls st0) := by
  intro T hT X
  obtain ⟨v, st₀, t, T', L, h0, X', hL, e1, e2, ⟨⟨r, M, hv, hp, hb⟩, hz, hk⟩, st⟩ := hr T hT X
  cases hv
  rw [h0] at hz hk
  obtain ⟨t2, a1, b1⟩ := kk r M t T'.heap (locs ++ L) e1.symm hp hb
    ⟨Nat.le_trans hS.1 (by rw [e1]; exact hz), fun q h1 h2 => by rw [e1, hk q (Nat.lt_of_lt_of_le h1 hS.1) (fun z => h2 (hA q (Nat.lt_of_lt_of_le h1 hS.1) z))]; exact hS.2.1 q h1 h2, fun q hq => by
      rcases List.mem_append.mp hq with h | h
      · exact hS.2.2 q h
      · exact hf _ (hL q h)⟩ T' rfl X'
  exact ⟨t2, st t2 a1, b1⟩
end EVC
def e_site (own : String) (idx : Nat) (y : MethodName) : Prop := Cond.methodLink own idx y ∈ e_big ∨ ∃ h, Cond.methodLinkNest own idx y h ∈ e_nst
def e_okB (μ : mI) (n : Nat) : Prop := Cond.code μ.1 μ.2.1 μ.2.2.1 μ.2.2.2 ∈ e_big ∧ Cond.initialized μ.1.cls ∈ e_big ∧ (μ.1.cls ≠ "java/lang/invoke/MethodHandle" ∧ μ.1.cls ≠ "java/lang/invoke/VarHandle" ∧ (parseMethodDescriptor μ.1.desc).map (fun d => d.parameters.length) = some n) ∧ μ.2.2.1 ≤ 14 ∧ plainName μ.1.cls = true
def e_okV (μ : mI) (n : Nat) : Prop := e_okB μ n ∧ Cond.instanceMethod μ.1 ∈ e_big ∧ Cond.selects μ.1.cls μ.1 μ.1 ∈ e_big
def e_okT (μ : mI) (n : Nat) : Prop := e_okB μ n ∧ Cond.static μ.1 ∈ e_big
theorem e_stk (ad : Nat → Nat) (r : Option Value) (S : List Value) : (r.toList ++ S).map (e_v ad) = (r.map (e_v ad)).toList ++ S.map (e_v ad) := by cases r <;> rfl
theorem e_wt (ad : Nat → Nat) (S : List Value) : ((S.map (e_v ad)).map fun v => v.category) = S.map fun v => v.category := by
  rw [List.map_map]
  exact List.map_congr_left fun v _ => e_v_cat ad v
section EVK
variable {N d : Nat} {μ μ1 : mI} {X : mX} {pc : Nat} {L S : List Value} {M : mM} {P : Option Value → mM → Prop}
set_option maxHeartbeats 4000000 in
theorem ev_invV {idx q ci : Nat} {fs : List Value} {r : vw_C} (As : List Value) (h : decode μ.2.1 pc = .ok (.invokevirtual idx, 3)) (hs : e_site μ.1.cls idx μ1.1) (ho : e_okV μ1 As.length) (hk : q < N) (hM : M q = .inr (ci, fs)) (hc : vwCl[ci]? = some r) (hcn : r.1 = μ1.1.cls) (hw : (S.map fun v => v.category).sum ≤ 8) (hf : (e_sp (.ref q :: As)).length ≤ μ1.2.2.1)
    (k : Ev N d μ1 none 0 (e_ent μ1.2.2.1 (.ref q :: As)) [] M (fun r1 M1 => Ev N (d + 1) μ X (pc + 3) L (r1.toList ++ S) M1 P)) : Ev N (d + 1) μ X pc L (As.reverse ++ .ref q :: S) M P := by
  intro p l e R s m args below meth c cells slots Q A D cA ad hE H locs ls hP hD hS hl
  obtain ⟨hx, hb, hml, hown, hts, hN, hK, hA, ⟨hR1, hR2, hR3, hR4⟩, hX, hRet⟩ := id hE
  obtain ⟨⟨o1, o2, o3, o4, o5⟩, o6, o7⟩ := ho
  have hM1 := ev_met o5 hf k l D cA ad H.size
  have hFc : ∀ q, va_A (e_w N ad cA M) H.size q → A q := fun q hq => by
    rcases hq with ⟨k1, e1, hq⟩ | hq
    · exact hD.2 k1 _ hq
    · exact hA q (Nat.le_trans hS.1 hq)
  have hpre : ∀ U : State, U.heap = H → s.WarmedH U.vm → va_Pc ((Value.ref q :: As).map (e_v ad)) (e_pre N D cA ad M H.size) (Value.ref (ad q) :: As.map (e_v ad)).toArray U := fun U hU hW => ⟨rfl, by rw [hU], by rw [hU]; exact hP, va_K.moved hW.alike hK, hD.weaken (fun _ _ _ _ => trivial), e_nst_warm hW hN⟩
  have hst : ((As.reverse ++ .ref q :: S).map (e_v ad)) = (As.map (e_v ad)).reverse ++ .ref (ad q) :: S.map (e_v ad) := by
    rw [List.map_append, List.map_reverse]; rfl
  have hrc : ∃ cell : Cell, H[ad q]? = some cell ∧ cell.vm.isStatics = false ∧ s.vm.findClass μ1.1.cls = some cell.cls := by
    rw [← hcn]
    exact va_recv hK hP hc (e_w_atc hk hM)
  have hroom : (e_rm d).frames + 1 ≤ R.frames ∧ 8 + (μ1.2.2.1 + 11) + (e_rm d).locals ≤ R.locals := by
    refine ⟨hR1, ?_⟩
    show 8 + (μ1.2.2.1 + 11) + 33 * d ≤ R.locals
    omega
  have run : va_Run p l e R s m args below meth c H locs cells slots 0 0 (F0 m pc ls ((As.reverse ++ .ref q :: S).map (e_v ad))) (S.map (e_v ad)) (e_Qc N (fun r1 M1 => Ev N (d + 1) μ X (pc + 3) L (r1.toList ++ S) M1 P) D cA ad (va_A (e_w N ad cA M) H.size) (Value.ref (ad q) :: As.map (e_v ad)).toArray) (va_A (e_w N ad cA M) H.size) := by
    rcases hs with hs | ⟨host, hs⟩
    · exact va_runV (As := As.map (e_v ad)) (rest := S.map (e_v ad)) (n := As.length) (C := μ1.1.cls) (g := F0 m pc ls ((As.reverse ++ .ref q :: S).map (e_v ad))) ⟨hx, hb, hml, hown, hts⟩ hM1 ⟨callB_of As.length hts (e_goodIn o1) rfl rfl rfl (hts _ o2) (hts _ hs) o3 hroom, hts _ o6, hts _ o7⟩ ⟨e_pre_blind _, hrc, hpre⟩ rfl (by rw [List.length_map]) hl.1 hst (lv_room (by rw [e_wt]; exact hw)) h ⟨hR3, hR4⟩
    · exact va_runVN (As := As.map (e_v ad)) (rest := S.map (e_v ad)) (n := As.length) (C := μ1.1.cls) (g := F0 m pc ls ((As.reverse ++ .ref q :: S).map (e_v ad))) ⟨hx, hb, hml, hown, hts⟩ hM1 ⟨va_cnB As.length hts (e_goodIn o1) rfl rfl rfl (hN _ hs) (hts _ o2) o3 hroom, hts _ o6, hts _ o7⟩ ⟨e_pre_blind _, hrc, hpre⟩ rfl (by rw [List.length_map]) hl.1 hst (lv_room (by rw [e_wt]; exact hw)) h ⟨hR3, hR4⟩
  refine e_call run hS (fun q _ z => hFc q z) hFc (fun r1 M1 t H1 locs1 ht hp hB hS1 => ?_)
  obtain ⟨b1, b2, b3⟩ := hB
  rw [ht] at b1
  rw [← e_stk]
  exact hp p l e R s m args below meth c cells slots Q A D cA ad hE H1 locs1 ls b1 (b3.weaken (fun _ q _ z => hFc _ z)) hS1 hl
set_option maxHeartbeats 4000000 in
theorem ev_invS {idx : Nat} (As : List Value) (h : decode μ.2.1 pc = .ok (.invokestatic idx, 3)) (hs : e_site μ.1.cls idx μ1.1) (ho : e_okT μ1 As.length) (hw : (S.map fun v => v.category).sum ≤ 8) (hf : (e_sp As).length ≤ μ1.2.2.1)
    (k : Ev N d μ1 none 0 (e_ent μ1.2.2.1 As) [] M (fun r1 M1 => Ev N (d + 1) μ X (pc + 3) L (r1.toList ++ S) M1 P)) : Ev N (d + 1) μ X pc L (As.reverse ++ S) M P := by
  intro p l e R s m args below meth c cells slots Q A D cA ad hE H locs ls hP hD hS hl
  obtain ⟨hx, hb, hml, hown, hts, hN, hK, hA, ⟨hR1, hR2, hR3, hR4⟩, hX, hRet⟩ := id hE
  obtain ⟨⟨o1, o2, o3, o4, o5⟩, o6⟩ := ho
  have hM1 := ev_met o5 hf k l D cA ad H.size
  have hFc : ∀ q, va_A (e_w N ad cA M) H.size q → A q := fun q hq => by
    rcases hq with ⟨k1, e1, hq⟩ | hq
    · exact hD.2 k1 _ hq
    · exact hA q (Nat.le_trans hS.1 hq)
  have hpre : ∀ U : State, U.heap = H → s.WarmedH U.vm → va_Pc (As.map (e_v ad)) (e_pre N D cA ad M H.size) (As.map (e_v ad)).toArray U := fun U hU hW => ⟨rfl, by rw [hU], by rw [hU]; exact hP, va_K.moved hW.alike hK, hD.weaken (fun _ _ _ _ => trivial), e_nst_warm hW hN⟩
  have hst : ((As.reverse ++ S).map (e_v ad)) = (As.map (e_v ad)).reverse ++ S.map (e_v ad) := by
    rw [List.map_append, List.map_reverse]
  have hroom : (e_rm d).frames + 1 ≤ R.frames ∧ 8 + (μ1.2.2.1 + 11) + (e_rm d).locals ≤ R.locals := by
    refine ⟨hR1, ?_⟩
    show 8 + (μ1.2.2.1 + 11) + 33 * d ≤ R.locals
    omega
  have run : va_Run p l e R s m args below meth c H locs cells slots 0 0 (F0 m pc ls ((As.reverse ++ S).map (e_v ad))) (S.map (e_v ad)) (e_Qc N (fun r1 M1 => Ev N (d + 1) μ X (pc + 3) L (r1.toList ++ S) M1 P) D cA ad (va_A (e_w N ad cA M) H.size) (As.map (e_v ad)).toArray) (va_A (e_w N ad cA M) H.size) := by
    rcases hs with hs | ⟨host, hs⟩
    · exact va_runS (As := As.map (e_v ad)) (rest := S.map (e_v ad)) (n := As.length) (g := F0 m pc ls ((As.reverse ++ S).map (e_v ad))) ⟨hx, hb, hml, hown, hts⟩ hM1 ⟨callB_of As.length hts (e_goodIn o1) rfl rfl rfl (hts _ o2) (hts _ hs) o3 hroom, hts _ o6⟩ ⟨e_pre_blind _, hpre⟩ rfl (by rw [List.length_map]) hl.1 hst (lv_room (by rw [e_wt]; exact hw)) h ⟨hR3, hR4⟩
    · exact va_runSN (As := As.map (e_v ad)) (rest := S.map (e_v ad)) (n := As.length) (g := F0 m pc ls ((As.reverse ++ S).map (e_v ad))) ⟨hx, hb, hml, hown, hts⟩ hM1 ⟨va_cnB As.length hts (e_goodIn o1) rfl rfl rfl (hN _ hs) (hts _ o2) o3 hroom, hts _ o6, trivial⟩ ⟨e_pre_blind _, hpre⟩ rfl (by rw [List.length_map]) hl.1 hst (lv_room (by rw [e_wt]; exact hw)) h ⟨hR3, hR4⟩
  refine e_call run hS (fun q _ z => hFc q z) hFc (fun r1 M1 t H1 locs1 ht hp hB hS1 => ?_)
  obtain ⟨b1, b2, b3⟩ := hB
  rw [ht] at b1
  rw [← e_stk]
  exact hp p l e R s m args below meth c cells slots Q A D cA ad hE H1 locs1 ls b1 (b3.weaken (fun _ q _ z => hFc _ z)) hS1 hl
end EVK
