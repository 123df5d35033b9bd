/-! ===== what every call keeps ===== -/
theorem aa_ok {a : List pg} {p : pg} (ha : ∀ q ∈ a, pgOk q) (hl : a.length ≤ 14) (hp : pgOk p) : (∀ q ∈ actsAdd a p, pgOk q) ∧ (actsAdd a p).length ≤ 14 := by
  unfold actsAdd
  split
  · next h =>
    refine ⟨fun q hq => ?_, by rw [List.length_append]; show a.length + 1 ≤ 14; omega⟩
    rcases List.mem_append.mp hq with z | z
    · exact ha q z
    · rw [List.mem_singleton.mp z]; exact hp
  · next h =>
    refine ⟨fun q hq => ?_, by rw [List.length_append, List.length_drop]; show a.length - 1 + 1 ≤ 14; omega⟩
    rcases List.mem_append.mp hq with z | z
    · exact ha q (List.mem_of_mem_drop z)
    · rw [List.mem_singleton.mp z]; exact hp
section INV
variable {s : cs}
theorem ok_write {x : Int32} (ho : cOk s) : cOk (n_write s x) := by
  unfold n_write
  split
  · next h =>
    obtain ⟨⟨a1, a2⟩, hr⟩ := ho
    obtain ⟨j, hj, rfl⟩ := inR_of h.1 (by decide)
    rw [n_cl (by omega)]
    refine ⟨⟨by show s.1.1 + 1 ≤ 40; omega, fun i hi => ?_⟩, hr⟩
    show (if i = s.1.1 then j else s.1.2 i) < 256
    split
    · exact hj
    · exact a2 i (by have : i < s.1.1 + 1 := hi; omega)
  · exact ho
theorem ok_wipe (ho : cOk s) : cOk (n_wipe s) := ⟨⟨Nat.zero_le _, fun i hi => absurd hi (Nat.not_lt_zero i)⟩, ho.2⟩
theorem ok_office (ho : cOk s) : cOk (n_office s) := by
  unfold n_office
  split
  · next h =>
    obtain ⟨o1, o2, o3, o4, o5, o6, o7⟩ := ho
    exact ⟨o1, ltOf_ok h, pgNew_ok 0, fun q hq => absurd hq List.not_mem_nil, Nat.zero_le _, fun i p hp => (by cases hp), o7⟩
  · exact ho
theorem ok_press {x : Int32} (ho : cOk s) : cOk (n_press s x) := by
  unfold n_press
  split
  · next h =>
    obtain ⟨o1, o2, o3, o4, o5, o6, o7⟩ := ho
    have h6 := o2.1
    obtain ⟨j, hj, rfl⟩ := inR_of h (by omega)
    rw [n_cl (by omega)]
    obtain ⟨b1, b2⟩ := aa_ok o4 o5 o3
    exact ⟨o1, o2, pgPress_ok o3 (by omega), b1, b2, o6, o7⟩
  · exact ho
theorem ok_day (ho : cOk s) : cOk (n_day s) := by
  obtain ⟨o1, o2, o3, o4, o5, o6, o7⟩ := ho
  obtain ⟨b1, b2⟩ := aa_ok o4 o5 o3
  exact ⟨o1, o2, pgDay_ok o3, b1, b2, o6, o7⟩
theorem ok_rub {x : Int32} (ho : cOk s) : cOk (n_rub s x) := by
  unfold n_rub
  split
  · obtain ⟨o1, o2, o3, o4, o5, o6, o7⟩ := ho
    obtain ⟨b1, b2⟩ := aa_ok o4 o5 o3
    exact ⟨o1, o2, pgClean_ok o3, b1, b2, o6, o7⟩
  · exact ho
theorem ok_change (ho : cOk s) : cOk (n_change s) := by
  unfold n_change
  split
  · exact ho
  · obtain ⟨o1, o2, o3, o4, o5, o6, o7⟩ := ho
    obtain ⟨b1, b2⟩ := aa_ok o4 o5 o3
    exact ⟨o1, o2, pgNew_ok _, b1, b2, o6, o7⟩
theorem ok_undo (ho : cOk s) : cOk (n_undo s) := by
  unfold n_undo
  split
  · exact ho
  · next p hp =>
    obtain ⟨o1, o2, o3, o4, o5, o6, o7⟩ := ho
    refine ⟨o1, o2, o4 p (List.mem_of_getLast? hp), fun q hq => o4 q (List.dropLast_subset _ hq), ?_, o6, o7⟩
    show s.2.2.2.1.dropLast.length ≤ 14
    rw [List.length_dropLast]
    omega
theorem ok_tell {x y : Int32} (ho : cOk s) : cOk (n_tell s x y) := by
  unfold n_tell
  split
  · next h =>
    obtain ⟨o1, o2, o3, o4, o5, o6, o7, o8⟩ := ho
    have h6 := o2.1
    obtain ⟨i, hi, rfl⟩ := inR_of h.1.1 (by omega)
    obtain ⟨j, hj, rfl⟩ := inR_of h.1.2 (by omega)
    rw [n_cl (by omega), n_cl (by omega)]
    refine ⟨o1, o2, o3, o4, o5, o6, by show s.2.2.2.2.2.1.1 + 1 ≤ 6; omega, fun k hk => ?_⟩
    have hk : k < s.2.2.2.2.2.1.1 + 1 := hk
    show (if k = s.2.2.2.2.2.1.1 then i else s.2.2.2.2.2.1.2.1 k) < 6 ∧ (if k = s.2.2.2.2.2.1.1 then j else s.2.2.2.2.2.1.2.2 k) < 6
    by_cases z : k = s.2.2.2.2.2.1.1
    · rw [if_pos z, if_pos z]; omega
    · rw [if_neg z, if_neg z]; exact o8 k (by omega)
  · exact ho
theorem ok_untell (ho : cOk s) : cOk (n_untell s) := by
  obtain ⟨o1, o2, o3, o4, o5, o6, o7⟩ := ho
  exact ⟨o1, o2, o3, o4, o5, o6, Nat.zero_le _, fun i hi => absurd hi (Nat.not_lt_zero i)⟩
theorem ok_seed {x : Int64} (ho : cOk s) : cOk (n_seed s x) := ho
theorem ok_years {x : Int32} (ho : cOk s) : cOk (n_years s x) := by
  unfold n_years
  split
  · exact ho
  · exact ho
theorem ok_keep {x : Int32} (ho : cOk s) : cOk (n_keep s x) := by
  unfold n_keep
  split
  · obtain ⟨o1, o2, o3, o4, o5, o6, o7⟩ := ho
    refine ⟨o1, o2, o3, o4, o5, fun i p hp => ?_, o7⟩
    have hp : (if i = x.toNatClampNeg then some s.2.2.1 else s.2.2.2.2.1 i) = some p := hp
    split at hp
    · cases hp; exact o3
    · exact o6 i p hp
  · exact ho
theorem ok_again {x : Int32} (ho : cOk s) : cOk (n_again s x) := by
  unfold n_again
  split
  · split
    · exact ho
    · next p hp =>
      obtain ⟨o1, o2, o3, o4, o5, o6, o7⟩ := ho
      exact ⟨o1, o2, o6 _ p hp, fun q hq => absurd hq List.not_mem_nil, Nat.zero_le _, o6, o7⟩
  · exact ho
/-- the state of a new object -/
def s_0 : cs := ((0, fun _ => 0), (0, fun _ => 0, fun _ => 0, fun _ => 0, fun _ => 0), pgNew 0, [], fun _ => none, (0, fun _ => 0, fun _ => 0), 0)
theorem ok_0 : cOk s_0 := ⟨⟨Nat.zero_le _, fun i hi => absurd hi (Nat.not_lt_zero i)⟩, ⟨Nat.zero_le _, fun i hi => absurd hi (Nat.not_lt_zero i)⟩, pgNew_ok 0, fun q hq => absurd hq List.not_mem_nil, Nat.zero_le _, fun i p hp => (by cases hp), Nat.zero_le _, fun i hi => absurd hi (Nat.not_lt_zero i)⟩
end INV
