section MP
variable {o_length o_spent o_many o_at o_isOut o_values o_failures o_works : Int32}
theorem p_misAll {post : Int32 → Prop} {x1 x2 x3 x4 : Int32} {vw : Nat → Int32} {w : Nat → Nat} (hW : Wt vw w) (h1 : (nI 0 ≤ x4 ∧ x4 ≤ nI 12) ∧ isF x1 x2 x3 (nI (pfx w 8)) → post (nI 1)) (h0 : ¬ ((nI 0 ≤ x4 ∧ x4 ≤ nI 12) ∧ isF x1 x2 x3 (nI (pfx w 8))) → post (nI 0)) : wp_M_isAll post o_length o_spent o_many o_at o_isOut o_values o_failures o_works vw x1 x2 x3 x4 := by
  rw [wp_M_isAll]
  refine p_misOne hW (fun g => ⟨fun e => absurd e (by decide), fun _ => ?_⟩) (fun g => ⟨fun _ => h0 (fun q => g q.2), fun e => absurd rfl e⟩)
  exact p_isWithin (post := post) (x := x4) (y := nI 0) (z := nI 12) (fun h => h1 ⟨h, g⟩) (fun h => h0 (fun q => h q.1))
section MC
variable {vw vr vb : Nat → Int32} {w : Nat → Nat} {x1 x2 x3 x4 x5 : Int32} {post : Int32 → Int32 → Int32 → Int32 → Int32 → Int32 → Int32 → (Nat → Int32) → (Nat → Int32) → Prop}
theorem p_mcount (hW : Wt vw w) (hno : ¬ ((nI 0 ≤ x4 ∧ x4 ≤ nI 12) ∧ isF x1 x2 x3 (nI (pfx w 8))) → post (-1) o_many o_at o_isOut o_values o_failures o_works vb vr) (hy : ∀ kind a b n, okX x1 x2 x3 w kind a b → n ≤ 12 → x4 = nI n → ∀ m ta io v f k vb vr, post (nI (allS n (hitF (samp kind a b w) x5))) m ta io v f k vb vr) : wp_M_count post o_length o_spent o_many o_at o_isOut o_values o_failures o_works vb vr vw x1 x2 x3 x4 x5 := by
  rw [wp_M_count]
  refine p_misAll hW (fun h => ⟨fun _ => ?_, fun e => absurd e (by decide)⟩) (fun h => ⟨fun e => absurd rfl e, fun _ => hno h⟩)
  obtain ⟨kind, a, b, hX⟩ := isF_ok (Wt_pfx hW 8 (by omega)) h.2
  obtain ⟨n, -, hn, e⟩ := nI_rng h.1.1 h.1.2 (by omega) (by omega)
  subst e
  exact p_mtryAll hW hX hn (fun ta io vb vr => hy kind a b n hX hn rfl _ ta io _ _ _ vb vr)
theorem p_mfails (hW : Wt vw w) (hno : ¬ ((nI 0 ≤ x4 ∧ x4 ≤ nI 12) ∧ isF x1 x2 x3 (nI (pfx w 8))) → post (-1) o_many o_at o_isOut o_values o_failures o_works vb vr) (hy : ∀ kind a b n, okX x1 x2 x3 w kind a b → n ≤ 12 → x4 = nI n → ∀ m ta io v f k vb vr, post (nI (allS n (outF (samp kind a b w)))) m ta io v f k vb vr) : wp_M_fails post o_length o_spent o_many o_at o_isOut o_values o_failures o_works vb vr vw x1 x2 x3 x4 := by
  rw [wp_M_fails]
  refine p_misAll hW (fun h => ⟨fun _ => ?_, fun e => absurd e (by decide)⟩) (fun h => ⟨fun e => absurd rfl e, fun _ => hno h⟩)
  obtain ⟨kind, a, b, hX⟩ := isF_ok (Wt_pfx hW 8 (by omega)) h.2
  obtain ⟨n, -, hn, e⟩ := nI_rng h.1.1 h.1.2 (by omega) (by omega)
  subst e
  exact p_mtryAll hW hX hn (fun ta io vb vr => hy kind a b n hX hn rfl _ ta io _ _ _ vb vr)
theorem p_mwork (hW : Wt vw w) (hno : ¬ ((nI 0 ≤ x4 ∧ x4 ≤ nI 12) ∧ isF x1 x2 x3 (nI (pfx w 8))) → post (-1) o_many o_at o_isOut o_values o_failures o_works vb vr) (hy : ∀ kind a b n, okX x1 x2 x3 w kind a b → n ≤ 12 → x4 = nI n → ∀ m ta io v f k vb vr, post (nI (allS n (rdsF (samp kind a b w)))) m ta io v f k vb vr) : wp_M_work post o_length o_spent o_many o_at o_isOut o_values o_failures o_works vb vr vw x1 x2 x3 x4 := by
  rw [wp_M_work]
  refine p_misAll hW (fun h => ⟨fun _ => ?_, fun e => absurd e (by decide)⟩) (fun h => ⟨fun e => absurd rfl e, fun _ => hno h⟩)
  obtain ⟨kind, a, b, hX⟩ := isF_ok (Wt_pfx hW 8 (by omega)) h.2
  obtain ⟨n, -, hn, e⟩ := nI_rng h.1.1 h.1.2 (by omega) (by omega)
  subst e
  exact p_mtryAll hW hX hn (fun ta io vb vr => hy kind a b n hX hn rfl _ ta io _ _ _ vb vr)
theorem allS_le : ∀ (n : Nat) (g : List Bool → Nat), (∀ l, g l ≤ 1) → allS n g ≤ 2 ^ n := by
  intro n
  induction n with
  | zero => intro g h; exact h []
  | succ n ih =>
    intro g h
    have h1 := ih (fun l => g (false :: l)) (fun l => h _)
    have h2 := ih (fun l => g (true :: l)) (fun l => h _)
    show allS n (fun l => g (false :: l)) + allS n (fun l => g (true :: l)) ≤ _
    rw [Nat.pow_succ]; omega
theorem hit_le (F : List Bool → Option (Nat × List Bool)) (xv : Int32) (l : List Bool) : hitF F xv l ≤ 1 := by
  unfold hitF
  cases F l with
  | none => exact Nat.zero_le _
  | some q => dsimp only; split <;> omega
end MC
end MP
