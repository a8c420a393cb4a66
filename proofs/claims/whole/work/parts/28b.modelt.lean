section MP
variable {o_length o_spent o_many o_at o_isOut o_values o_failures o_works : Int32}
theorem lb_get : ∀ n t j b, (lb n t)[j]? = some b → b = t.testBit j := by
  intro n
  induction n with
  | zero => intro t j b h; simp [lb] at h
  | succ n ih =>
    intro t j b h
    cases j with
    | zero =>
      have h : some (t.testBit 0) = some b := h
      exact (Option.some.inj h).symm
    | succ j =>
      have h : (lb n (t / 2))[j]? = some b := by simpa [lb] using h
      rw [ih _ _ _ h, Nat.testBit_succ]
set_option maxHeartbeats 1000000 in
theorem m_ta {vw : Nat → Int32} {w : Nat → Nat} {x1 x2 x3 xv : Int32} {kind a b n : Nat} {post : Int32 → Int32 → Int32 → Int32 → Int32 → Int32 → (Nat → Int32) → (Nat → Int32) → Prop} (hW : Wt vw w) (hX : okX x1 x2 x3 w kind a b) (hn : n ≤ 12)
    (hp : ∀ ta io vb vr, post (nI n) ta io (nI (allS n (hitF (samp kind a b w) xv))) (nI (allS n (outF (samp kind a b w)))) (nI (allS n (rdsF (samp kind a b w)))) vb vr) :
    ∀ (m t : Nat) (ta io : Int32) (vb vr : Nat → Int32), 2 ^ n - t < m → t ≤ 2 ^ n → gL8 (wpF_M_tryAll_24 post o_length o_spent (nI n) vw x1 x2 x3 (nI n) xv) m ta io (nI (sumR (fun u => hitF (samp kind a b w) xv (lb n u)) t)) (nI (sumR (fun u => outF (samp kind a b w) (lb n u)) t)) (nI (sumR (fun u => rdsF (samp kind a b w) (lb n u)) t)) vb vr (nI t) := by
  have hpw : 2 ^ n ≤ 2 ^ 12 := Nat.pow_le_pow_right (by omega) hn
  intro m
  induction m with
  | zero => intro t ta io vb vr h; omega
  | succ m ih =>
    intro t ta io vb vr hm ht
    show wpF_M_tryAll_24 post o_length o_spent (nI n) vw x1 x2 x3 (nI n) xv (gL8 _ m) ta io _ _ _ vb vr (nI t)
    rw [wpF_M_tryAll_24, nI_shl1 (by omega)]
    refine pk_le (2 ^ n) t (fun h => ?_) (fun h => ?_)
    · have e : t = 2 ^ n := by omega
      subst e
      rw [sum_lb n (hitF (samp kind a b w) xv), sum_lb n (outF (samp kind a b w)), sum_lb n (rdsF (samp kind a b w))]
      exact hp ta io vb vr
    · have inner : ∀ (m2 k : Nat) (vb : Nat → Int32), n - k < m2 → k ≤ n → (∀ j, j < k → vb j = bI (t.testBit j)) → gL2 (wpF_M_tryAll_36 (gL8 (wpF_M_tryAll_24 post o_length o_spent (nI n) vw x1 x2 x3 (nI n) xv) m) o_length o_spent (nI n) ta io (nI (sumR (fun u => hitF (samp kind a b w) xv (lb n u)) t)) (nI (sumR (fun u => outF (samp kind a b w) (lb n u)) t)) (nI (sumR (fun u => rdsF (samp kind a b w) (lb n u)) t)) vr vw x1 x2 x3 (nI n) xv (nI t)) m2 vb (nI k) := by
        intro m2
        induction m2 with
        | zero => intro k vb h; omega
        | succ m2 ih2 =>
          intro k vb hm2 hk hv
          show wpF_M_tryAll_36 _ o_length o_spent (nI n) ta io _ _ _ vr vw x1 x2 x3 (nI n) xv (nI t) (gL2 _ m2) vb (nI k)
          rw [wpF_M_tryAll_36]
          refine pk_le n k (fun h2 => ?_) (fun h2 => ?_)
          · have hT : Tp vb 0 n (lb n t) := ⟨by rw [lb_len]; omega, fun j b hj => by
              have hlt := (List.getElem?_eq_some_iff.mp hj).1
              rw [lb_len] at hlt
              rw [Nat.zero_add, hv j (by omega), lb_get _ _ _ _ hj]⟩
            refine p_mrun hW hX (by omega) hT (fun vr' => ?_)
            have hlen := lb_len n t
            have go : ∀ (ta' io' : Int32), gL8 (wpF_M_tryAll_24 post o_length o_spent (nI n) vw x1 x2 x3 (nI n) xv) m ta' io' (nI (sumR (fun u => hitF (samp kind a b w) xv (lb n u)) t + hitF (samp kind a b w) xv (lb n t))) (nI (sumR (fun u => outF (samp kind a b w) (lb n u)) t + outF (samp kind a b w) (lb n t))) (nI (sumR (fun u => rdsF (samp kind a b w) (lb n u)) t + rdsF (samp kind a b w) (lb n t))) vb vr' (nI (t + 1)) := fun ta' io' => ih (t + 1) ta' io' vb vr' (by omega) (by omega)
            cases hq : samp kind a b w (lb n t) with
            | none =>
              have r1 : rdsF (samp kind a b w) (lb n t) = n := by unfold rdsF; rw [hq]; exact hlen
              have r2 : outF (samp kind a b w) (lb n t) = 1 := by unfold outF; rw [hq]
              have r3 : hitF (samp kind a b w) xv (lb n t) = 0 := by unfold hitF; rw [hq]
              rw [r1, r2, r3, Nat.add_zero] at go
              intro x
              rw [nI_add, nI_add, nI_add, nI_add]
              exact ⟨fun e => absurd e one_ne0, fun _ => ⟨fun _ => go _ _, fun e => absurd e one_ne0⟩⟩
            | some q =>
              intro a' hT'
              have hal := hT'.1
              have r1 : rdsF (samp kind a b w) (lb n t) = a' := by unfold rdsF; rw [hq]; show (lb n t).length - q.2.length = _; omega
              have r2 : outF (samp kind a b w) (lb n t) = 0 := by unfold outF; rw [hq]
              have r3 : hitF (samp kind a b w) xv (lb n t) = if nI q.1 = xv then 1 else 0 := by unfold hitF; rw [hq]
              rw [r1, r2, r3, Nat.add_zero] at go
              rw [nI_add, nI_add, nI_add]
              refine ⟨fun _ => ⟨fun e => absurd rfl e, fun _ => ⟨fun e => ?_, fun e => ?_⟩⟩, fun e => absurd rfl e⟩
              · rw [if_neg e, Nat.add_zero] at go
                exact go _ _
              · rw [if_pos e] at go
                exact go _ _
          · refine ⟨pk_in k 256 (by omega), ?_⟩
            rw [nI_clamp (by omega), bit_s _ (by omega), bt_nI (by omega), nI_add]
            refine ih2 (k + 1) _ (by omega) (by omega) (fun j hj => ?_)
            by_cases e : j = k
            · rw [e, pk_us]
            · rw [pk_un e]; exact hv j (by omega)
      exact ⟨n + 1, inner (n + 1) 0 vb (by omega) (by omega) (fun j h => by omega)⟩
theorem p_mtryAll {vw vr vb : Nat → Int32} {w : Nat → Nat} {x1 x2 x3 xv : Int32} {kind a b n : Nat} {post : Int32 → Int32 → Int32 → Int32 → Int32 → Int32 → (Nat → Int32) → (Nat → Int32) → Prop} (hW : Wt vw w) (hX : okX x1 x2 x3 w kind a b) (hn : n ≤ 12)
    (hp : ∀ ta io vb vr, post (nI n) ta io (nI (allS n (hitF (samp kind a b w) xv))) (nI (allS n (outF (samp kind a b w)))) (nI (allS n (rdsF (samp kind a b w)))) vb vr) : wp_M_tryAll post o_length o_spent o_many o_at o_isOut o_values o_failures o_works vb vr vw x1 x2 x3 (nI n) xv := by
  rw [wp_M_tryAll]
  exact ⟨2 ^ n + 1, m_ta hW hX hn hp (2 ^ n + 1) 0 o_at o_isOut vb vr (Nat.lt_succ_of_le (Nat.sub_le _ _)) (Nat.zero_le _)⟩
end MP
