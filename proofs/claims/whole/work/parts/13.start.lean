theorem gN_on : ∀ w ∈ gN, w.onTables = true := by
  intro w hw
  simp only [gN, List.mem_cons, List.not_mem_nil, or_false] at hw
  rcases hw with rfl | rfl | rfl | rfl | rfl <;> rfl
theorem start_of {p : Program} {e : Env} {s : State} {m : MethodId} {below : List Frame} {meth : Method} {c : Code} (l : Launch) {b L : Nat} {xs : Nat → Int32} (hw : wp_L_law L xs) (C0 : lw_At p s m meth c b L xs) : W p l e room_1 s m #[Value.ref b] below meth c s.heap [] 0 0 (lw_Z below #[Value.ref b] s) (entryFrame m ([Value.ref b] : List Value).toArray 4) := by
  obtain ⟨hx, hb, hr, hml, hown, hts, hX, hbl, hlocks, hgv⟩ := C0
  have htG : ∀ w ∈ gG, w.before #[Value.ref b] s = true := fun w h => hts w (List.mem_filter.mp h).1
  have hN : gNest s := fun w hw => va_Nw.of (gN_on w hw) (hts w (List.mem_append_right _ (gN_tab w hw)))
  obtain ⟨c0, i0, k0⟩ := u_known (C := "TapeCounter$Tally") (T := TfY) (N := 4) (n := 4) htG inY (htG _ w_33)
  obtain ⟨c1, i1, k1⟩ := u_known (C := "TapeCounter$Tape") (T := TfT) (N := 3) (n := 3) htG inT (htG _ w_16)
  obtain ⟨c2, i2, k2⟩ := u_known (C := "TapeCounter") (T := TfC) (N := 6) (n := 6) htG inC (htG _ w_8)
  obtain ⟨c3, i3, k3⟩ := u_known (C := "TapeCounterModel") (T := TfM) (N := 12) (n := 12) htG inM (htG _ w_222)
  obtain ⟨cA, kA, comp, f1, f2, f3⟩ := Cond.arrayClass_spec (htG _ w_31)
  obtain ⟨dC, dI, hKc⟩ : ∃ (dC : Nat → ClassId) (dI : Nat → Nat → Nat), ∀ (k : Nat) (q : vw_C), gCl[k]? = some q → u_Kn s q.1 q.2.1 q.2.2 (dC k) (dI k) := by
    refine ⟨fun k => if k = 0 then c0 else if k = 1 then c1 else if k = 2 then c2 else c3, fun k => if k = 0 then i0 else if k = 1 then i1 else if k = 2 then i2 else i3, ?_⟩
    intro k q hq
    match k, hq with
    | 0, hq => cases hq; exact k0
    | 1, hq => cases hq; exact k1
    | 2, hq => cases hq; exact k2
    | 3, hq => cases hq; exact k3
    | k + 4, hq => simp [gCl] at hq
  have hK : va_K (dC, dI) gCl [(cA, .int)] s := ⟨hKc, fun k q h => by
    have hk : k < 1 := (List.getElem?_eq_some_iff.mp h).1
    have hk0 : k = 0 := by omega
    subst hk0
    cases h
    exact ⟨fun n z => ⟨fun k h => (by cases h), kA, f2, comp, f3⟩, f1⟩⟩
  have hl := lv_entry ([.ref b]) (n := 4) (Nat.le_of_ble_eq_true rfl)
  rw [lg_entry_eq]
  exact law_walk l hx hb hr hml hown htG hN hX hbl hlocks hK hw _ hl
