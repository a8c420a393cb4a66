section MP
variable {o_length o_spent o_many o_at o_isOut o_values o_failures o_works : Int32}
section MC
variable {vw vr vb : Nat → Int32} {w : Nat → Nat} {x1 x2 x3 x4 x5 : Int32} {post : Int32 → Int32 → Int32 → Int32 → Int32 → Int32 → Int32 → (Nat → Int32) → (Nat → Int32) → Prop}
set_option maxHeartbeats 1000000 in
theorem p_mfirst (hW : Wt vw w) (hno : ¬ isF x1 x2 x3 (nI (pfx w 8)) → post (-1) o_many o_at o_isOut o_values o_failures o_works vb vr) (hy : ∀ kind a b, okX x1 x2 x3 w kind a b → ∀ m ta io v f k vb vr, post (nI (fewF (samp kind a b w) 12 x4 (2 ^ 12))) m ta io v f k vb vr) : wp_M_first post o_length o_spent o_many o_at o_isOut o_values o_failures o_works vb vr vw x1 x2 x3 x4 := by
  rw [wp_M_first]
  refine p_misOne hW (fun h => ⟨fun _ => ?_, fun e => absurd e (by decide)⟩) (fun h => ⟨fun e => absurd rfl e, fun _ => hno h⟩)
  obtain ⟨kind, a, b, hX⟩ := isF_ok (Wt_pfx hW 8 (by omega)) h
  have hF := pf_samp kind a b w
  have hy := hy kind a b hX
  have h13 := fewF_le (F := samp kind a b w) (n := 12) x4 (2 ^ 12)
  have hin : fewF (samp kind a b w) 12 x4 (2 ^ 12) ≤ 12 → _ := few_in (F := samp kind a b w) hF (xv := x4)
  have hlt : ∀ m, m ≤ 12 → 0 < allS m (hitF (samp kind a b w) x4) → fewF (samp kind a b w) 12 x4 (2 ^ 12) ≤ m := fun m hm h0 => few_lt (F := samp kind a b w) hF hm h0
  generalize fewF (samp kind a b w) 12 x4 (2 ^ 12) = T at hy h13 hin hlt
  have loop : ∀ (n m : Nat) (om ta io v f k : Int32) (vb vr : Nat → Int32), 13 - m < n → m ≤ T → gL9 (wpF_M_first_15 post o_length o_spent vw x1 x2 x3 x4) n om ta io v f k vb vr (nI m) := by
    intro n
    induction n with
    | zero => intro m om ta io v f k vb vr h; omega
    | succ n ih =>
      intro m om ta io v f k vb vr hn hm
      show wpF_M_first_15 post o_length o_spent vw x1 x2 x3 x4 (gL9 _ n) om ta io v f k vb vr (nI m)
      rw [wpF_M_first_15]
      refine pk_lt 12 m (fun h => ?_) (fun h => ?_)
      · have e : T = 13 := by omega
        subst e
        exact hy _ _ _ _ _ _ _ _
      · refine p_mtryAll hW hX h (fun ta io vb vr => ?_)
        have hle := allS_le m (hitF (samp kind a b w) x4) (hit_le _ _)
        have hpw : 2 ^ m ≤ 2 ^ 12 := Nat.pow_le_pow_right (by omega) h
        refine ⟨fun c => ?_, fun c => ?_⟩
        · have e0 := (nI_l0 (by omega)).mp c
          rw [nI_add]
          refine ih (m + 1) _ _ _ _ _ _ _ _ (by omega) ?_
          rcases Nat.lt_or_ge m T with q | q
          · exact q
          · have e : T = m := by omega
            subst e
            have := hin (by omega)
            omega
        · have h0 : 0 < allS m (hitF (samp kind a b w) x4) := Nat.pos_of_ne_zero (fun e => c ((nI_l0 (by omega)).mpr e))
          have e : T = m := by have := hlt m h h0; omega
          subst e
          exact hy _ _ _ _ _ _ _ _
  exact ⟨14, loop 14 0 _ _ _ _ _ _ vb vr (by omega) (by omega)⟩
end MC
end MP
