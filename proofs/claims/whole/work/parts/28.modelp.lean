/-! the reference's public calls -/
theorem Tp.congr {f g : Nat → Int32} {a sz : Nat} {l : List Bool} (h : Tp f a sz l) (e : ∀ j, j < sz → g j = f j) : Tp g a sz l := by
  obtain ⟨h1, h2⟩ := h
  refine ⟨h1, fun j b hj => ?_⟩
  have hlt := (List.getElem?_eq_some_iff.mp hj).1
  rw [e _ (by omega)]
  exact h2 j b hj
section MP
variable {o_length o_spent o_many o_at o_isOut o_values o_failures o_works : Int32}
theorem m_fe {x : Int32} {post : Int32 → Int32 → (Nat → Int32) → Prop} : ∀ (n k s : Nat) (f : Nat → Int32) (pre : List Bool), k < n → k ≤ 32 → s + k ≤ 256 → Tp f 0 s pre → (∀ f', Tp f' 0 (s + k) (pre ++ bitsO x k) → post (nI (s + k)) (nI (s + k)) f') → gL3 (wpF_M_feed_28 post x) n (nI s) f (nI k - nI 1) := by
  intro n
  induction n with
  | zero => intro k s f pre h; omega
  | succ n ih =>
    intro k s f pre hn hk hs hT hp
    show wpF_M_feed_28 post x (gL3 _ n) (nI s) f (nI k - nI 1)
    rw [wpF_M_feed_28]
    cases k with
    | zero =>
      refine ⟨fun _ => ?_, fun h => absurd (by decide) h⟩
      have := hp f (by simpa [bitsO] using hT)
      simpa using this
    | succ k =>
      rw [pk_sub (by omega : 1 ≤ k + 1), Nat.add_sub_cancel]
      refine ⟨fun h => absurd h (nI_pos (by omega)), fun _ => ⟨pk_in s 256 (by omega), ?_⟩⟩
      rw [nI_clamp (by omega), bit_s x (by omega), nI_m, nI_add]
      refine ih k (s + 1) _ (pre ++ [bt x k]) (by omega) (by omega) (by omega) (hT.snoc _) (fun f' hT' => ?_)
      rw [show s + 1 + k = s + (k + 1) by omega] at hT' ⊢
      refine hp f' ?_
      rw [show bitsO x (k + 1) = bt x k :: bitsO x k from rfl, List.append_cons]
      exact hT'
theorem p_mfeed {x1 x2 : Int32} {sz : Nat} {f : Nat → Int32} {l : List Bool} {post : Int32 → Int32 → (Nat → Int32) → Prop} (hz : sz ≤ 256) (hT : Tp f 0 sz l) (hno : (∀ n, ¬ fdOk x2 sz 256 n) → post (-1) (nI sz) f) (hy : ∀ n f', fdOk x2 sz 256 n → Tp f' 0 (sz + n) (l ++ bitsO x1 n) → post (nI (sz + n)) (nI (sz + n)) f') : wp_M_feed post (nI sz) o_spent o_many o_at o_isOut o_values o_failures o_works f x1 x2 := by
  rw [wp_M_feed]
  refine ⟨fun h => hno (fun n q => absurd (q.2.1 ▸ h) (nI_pos (by have := q.1; omega))), fun h => ?_⟩
  obtain ⟨n, hn, rfl⟩ := nI_of h
  refine pk_lt 32 n (fun h2 => hno (fun m q => ?_)) (fun h2 => ?_)
  · have := (nI_eq hn (by have := q.1; omega)).mp q.2.1
    have := q.1
    omega
  · rw [nI_add]
    refine pk_le (sz + n) 256 (fun h3 => ?_) (fun h3 => hno (fun m q => ?_))
    · exact ⟨n + 1, m_fe (n + 1) n sz f l (by omega) h2 (by omega) hT (fun f' hT' => hy n f' ⟨h2, rfl, by omega⟩ hT')⟩
    · have := (nI_eq hn (by have := q.1; omega)).mp q.2.1
      have := q.2.2
      omega
def wgOk (x1 x2 : Int32) (i n : Nat) : Prop := i < 8 ∧ n ≤ 15 ∧ x1 = nI i ∧ x2 = nI n
theorem wg_of {x1 x2 : Int32} (h1 : nI 0 ≤ x1 ∧ x1 ≤ nI 7) (h2 : nI 0 ≤ x2 ∧ x2 ≤ nI 15) : ∃ i n, wgOk x1 x2 i n := by
  obtain ⟨i, _, hi, e1⟩ := nI_rng h1.1 h1.2 (by omega) (by omega)
  obtain ⟨n, _, hn, e2⟩ := nI_rng h2.1 h2.2 (by omega) (by omega)
  exact ⟨i, n, by omega, hn, e1, e2⟩
theorem p_weigh {x x1 x2 : Int32} {vw : Nat → Int32} {post : Int32 → (Nat → Int32) → Prop} (hno : (∀ i n, ¬ wgOk x1 x2 i n) → post (nI 0) vw) (hy : ∀ i n, wgOk x1 x2 i n → post (nI 1) (upd vw i (nI n))) : wp_C_weigh post x vw x1 x2 := by
  rw [wp_C_weigh]
  have bad1 : ¬ (nI 0 ≤ x1 ∧ x1 ≤ nI 7) → post (nI 0) vw := fun h => hno (fun i n q => h (by
    obtain ⟨q1, q2, rfl, rfl⟩ := q
    exact ⟨(nI_leI (by omega) (by omega)).mpr (by omega), (nI_leI (by omega) (by omega)).mpr (by omega)⟩))
  have bad2 : ¬ (nI 0 ≤ x2 ∧ x2 ≤ nI 15) → post (nI 0) vw := fun h => hno (fun i n q => h (by
    obtain ⟨q1, q2, rfl, rfl⟩ := q
    exact ⟨(nI_leI (by omega) (by omega)).mpr (by omega), (nI_leI (by omega) (by omega)).mpr (by omega)⟩))
  refine p_isWithin (fun h => ⟨fun e => absurd e (by decide), fun _ => ?_⟩) (fun h => ⟨fun _ => bad1 h, fun e => absurd rfl e⟩)
  refine p_isWithin (fun h2 => ⟨fun _ => ?_, fun e => absurd e (by decide)⟩) (fun h2 => ⟨fun e => absurd rfl e, fun _ => bad2 h2⟩)
  obtain ⟨i, n, hw⟩ := wg_of h h2
  have hy2 := hy i n hw
  obtain ⟨q1, q2, rfl, rfl⟩ := hw
  rw [nI_clamp (by omega)]
  exact ⟨pk_in i 8 q1, hy2⟩
theorem p_mweigh {x1 x2 : Int32} {vw : Nat → Int32} {post : Int32 → (Nat → Int32) → Prop} (hno : (∀ i n, ¬ wgOk x1 x2 i n) → post (nI 0) vw) (hy : ∀ i n, wgOk x1 x2 i n → post (nI 1) (upd vw i (nI n))) : wp_M_weigh post o_length o_spent o_many o_at o_isOut o_values o_failures o_works vw x1 x2 := by
  rw [wp_M_weigh]
  have bad1 : ¬ (nI 0 ≤ x1 ∧ x1 ≤ nI 7) → post (nI 0) vw := fun h => hno (fun i n q => h (by
    obtain ⟨q1, q2, rfl, rfl⟩ := q
    exact ⟨(nI_leI (by omega) (by omega)).mpr (by omega), (nI_leI (by omega) (by omega)).mpr (by omega)⟩))
  have bad2 : ¬ (nI 0 ≤ x2 ∧ x2 ≤ nI 15) → post (nI 0) vw := fun h => hno (fun i n q => h (by
    obtain ⟨q1, q2, rfl, rfl⟩ := q
    exact ⟨(nI_leI (by omega) (by omega)).mpr (by omega), (nI_leI (by omega) (by omega)).mpr (by omega)⟩))
  refine ⟨fun h => bad1 (fun q => absurd h (Int32.not_lt.mpr q.1)), fun h => ⟨fun h2 => bad1 (fun q => absurd h2 (Int32.not_lt.mpr q.2)), fun h2 => ⟨fun h3 => bad2 (fun q => absurd h3 (Int32.not_lt.mpr q.1)), fun h3 => ⟨fun h4 => ?_, fun h4 => bad2 (fun q => h4 q.2)⟩⟩⟩⟩
  obtain ⟨i, n, hw⟩ := wg_of ⟨Int32.not_lt.mp h, Int32.not_lt.mp h2⟩ ⟨Int32.not_lt.mp h3, h4⟩
  have hy2 := hy i n hw
  obtain ⟨q1, q2, rfl, rfl⟩ := hw
  rw [nI_clamp (by omega)]
  exact ⟨pk_in i 8 q1, hy2⟩
theorem p_weight {x x1 : Int32} {vw : Nat → Int32} {post : Int32 → Prop} (hno : ¬ (nI 0 ≤ x1 ∧ x1 ≤ nI 7) → post (-1)) (hy : ∀ i, i < 8 → x1 = nI i → post (vw i)) : wp_C_weight post x vw x1 := by
  rw [wp_C_weight]
  refine p_isWithin (fun h => ⟨fun e => absurd e (by decide), fun _ => ?_⟩) (fun h => ⟨fun _ => hno h, fun e => absurd rfl e⟩)
  obtain ⟨i, _, hi, rfl⟩ := nI_rng h.1 h.2 (by omega) (by omega)
  rw [nI_clamp (by omega)]
  exact ⟨pk_in i 8 (by omega), hy i (by omega) rfl⟩
theorem p_mweight {x1 : Int32} {vw : Nat → Int32} {post : Int32 → Prop} (hno : ¬ (nI 0 ≤ x1 ∧ x1 ≤ nI 7) → post (-1)) (hy : ∀ i, i < 8 → x1 = nI i → post (vw i)) : wp_M_weight post o_length o_spent o_many o_at o_isOut o_values o_failures o_works vw x1 := by
  rw [wp_M_weight]
  refine ⟨fun h => hno (fun q => absurd h (Int32.not_lt.mpr q.1)), fun h => ⟨fun h2 => ?_, fun h2 => hno (fun q => h2 q.2)⟩⟩
  obtain ⟨i, _, hi, rfl⟩ := nI_rng (lo := 0) (Int32.not_lt.mp h) h2 (by omega) (by omega)
  rw [nI_clamp (by omega)]
  exact ⟨pk_in i 8 (by omega), hy i (by omega) rfl⟩
/-! draw -/
theorem m_dr76 {post : Int32 → Int32 → Int32 → Int32 → Int32 → Int32 → (Nat → Int32) → (Nat → Int32) → (Nat → Int32) → Prop} {sz a : Nat} {many io r : Int32} {vb vr vq : Nat → Int32} (hz : sz ≤ 256) (ha : a ≤ sz) (hp : ∀ g, (∀ j, j < sz - a → g j = vq (a + j)) → post r (nI (sz - a)) (nI a) many (nI a) io vb vr g) : ∀ (n k : Nat) (g : Nat → Int32), sz - k < n → a ≤ k → k ≤ sz → (∀ j, j < k - a → g j = vq (a + j)) → (∀ j, k ≤ j → g j = vq j) → gL2 (wpF_M_draw_76 post (nI sz) many (nI a) io vb vr r) n g (nI k) := by
  intro n
  induction n with
  | zero => intro k g h; omega
  | succ n ih =>
    intro k g hn hak hk h1 h2
    show wpF_M_draw_76 post (nI sz) many (nI a) io vb vr r (gL2 _ n) g (nI k)
    rw [wpF_M_draw_76]
    refine pk_le sz k (fun h => ?_) (fun h => ?_)
    · have e : k = sz := by omega
      subst e
      rw [pk_sub ha]
      exact hp g h1
    · rw [pk_sub hak]
      refine ⟨pk_in k 256 (by omega), pk_in (k - a) 256 (by omega), ?_⟩
      rw [nI_clamp (by omega), nI_clamp (by omega), nI_add]
      refine ih (k + 1) _ (by omega) (by omega) (by omega) (fun j hj => ?_) (fun j hj => ?_)
      · by_cases e : j = k - a
        · rw [e, pk_us, h2 k (Nat.le_refl k)]
          congr 1
          omega
        · rw [pk_un e]
          exact h1 j (by omega)
      · rw [pk_un (by omega)]
        exact h2 j (by omega)
set_option maxHeartbeats 1000000 in
theorem p_mdraw {vw vr vb vq : Nat → Int32} {w : Nat → Nat} {x1 x2 x3 : Int32} {sz : Nat} {l : List Bool} {post : Int32 → Int32 → Int32 → Int32 → Int32 → Int32 → (Nat → Int32) → (Nat → Int32) → (Nat → Int32) → Prop} (hW : Wt vw w) (hz : sz ≤ 256) (hT : Tp vq 0 sz l)
    (hno : ¬ isF x1 x2 x3 (nI (pfx w 8)) → post (-1) (nI sz) o_spent o_many o_at o_isOut vb vr vq)
    (hy : ∀ kind a b, okX x1 x2 x3 w kind a b → match samp kind a b w l with
      | none => ∀ m a i vb vr, post (-1) (nI sz) o_spent m a i vb vr vq
      | some q => ∀ m a i vb vr vq', Tp vq' 0 q.2.length q.2 → post (nI q.1) (nI q.2.length) (nI (sz - q.2.length)) m a i vb vr vq') : wp_M_draw post (nI sz) o_spent o_many o_at o_isOut o_values o_failures o_works vb vr vw vq x1 x2 x3 := by
  rw [wp_M_draw]
  have hb8 := Wt_pfx hW 8 (by omega)
  refine p_misOne hW (fun h => ⟨fun _ => ?_, fun e => absurd e (by decide)⟩) (fun h => ⟨fun e => absurd rfl e, fun _ => hno h⟩)
  obtain ⟨kind, a, b, hX⟩ := isF_ok hb8 h
  have hy := hy kind a b hX
  have loop : ∀ (n i : Nat) (vb : Nat → Int32), sz - i < n → i ≤ sz → (∀ j, j < i → vb j = vq j) → gL2 (wpF_M_draw_15 post (nI sz) o_spent o_at o_isOut o_values o_failures o_works vr vw vq x1 x2 x3) n vb (nI i) := by
    intro n
    induction n with
    | zero => intro i vb h; omega
    | succ n ih =>
      intro i vb hn hi hv
      show wpF_M_draw_15 post (nI sz) o_spent o_at o_isOut o_values o_failures o_works vr vw vq x1 x2 x3 (gL2 _ n) vb (nI i)
      rw [wpF_M_draw_15]
      refine pk_le sz i (fun h => ?_) (fun h => ?_)
      · have e : i = sz := by omega
        subst e
        refine p_mrun hW hX hz (hT.congr hv) (fun vr' => ?_)
        cases hq : samp kind a b w l with
        | none =>
          rw [hq] at hy
          exact fun x => ⟨fun e => absurd e one_ne0, fun _ => hy _ _ _ _ _⟩
        | some q =>
          rw [hq] at hy
          intro a' hT'
          have hal := hT'.1
          refine ⟨fun _ => ⟨i + 1, ?_⟩, fun e => absurd rfl e⟩
          refine m_dr76 (vq := vq) hz hT'.le (fun g hg => ?_) (i + 1) a' vq (by omega) (Nat.le_refl _) hT'.le (fun j hj => by omega) (fun j _ => rfl)
          have hq2 : i - a' = q.2.length := by omega
          have h3 := hy (nI i) (nI a') (nI 0) vb vr' g ⟨by omega, fun j b hj => ?_⟩
          · rw [hq2, show a' = i - q.2.length by omega]
            rw [show i - q.2.length = a' by omega] at h3 ⊢
            exact h3
          · have hlt := (List.getElem?_eq_some_iff.mp hj).1
            rw [Nat.zero_add, hg j (by omega), ← hv (a' + j) (by omega)]
            exact hT'.2 j b hj
      · refine ⟨pk_in i 256 (by omega), pk_in i 256 (by omega), ?_⟩
        rw [nI_clamp (by omega), nI_add]
        refine ih (i + 1) _ (by omega) (by omega) (fun j hj => ?_)
        by_cases e : j = i
        · rw [e, pk_us]
        · rw [pk_un e]; exact hv j (by omega)
  exact ⟨sz + 1, loop (sz + 1) 0 vb (by omega) (by omega) (fun j h => by omega)⟩
/-! all tapes -/
theorem lb_get : ∀ n t j b, (lb n t)[j]? = some b → b = t.testBit j := by
  intro n
  induction n with
  | zero => intro t j b h; simp [lb] at h
  | succ n ih =>
    intro t j b h
    cases j with
    | zero =>
      have h : some (t.testBit 0) = some b := h
      exact (Option.some.inj h).symm
    | succ j =>
      have h : (lb n (t / 2))[j]? = some b := by simpa [lb] using h
      rw [ih _ _ _ h, Nat.testBit_succ]
set_option maxHeartbeats 1000000 in
theorem m_ta {vw : Nat → Int32} {w : Nat → Nat} {x1 x2 x3 xv : Int32} {kind a b n : Nat} {post : Int32 → Int32 → Int32 → Int32 → Int32 → Int32 → (Nat → Int32) → (Nat → Int32) → Prop} (hW : Wt vw w) (hX : okX x1 x2 x3 w kind a b) (hn : n ≤ 12)
    (hp : ∀ ta io vb vr, post (nI n) ta io (nI (allS n (hitF (samp kind a b w) xv))) (nI (allS n (outF (samp kind a b w)))) (nI (allS n (rdsF (samp kind a b w)))) vb vr) :
    ∀ (m t : Nat) (ta io : Int32) (vb vr : Nat → Int32), 2 ^ n - t < m → t ≤ 2 ^ n → gL8 (wpF_M_tryAll_24 post o_length o_spent (nI n) vw x1 x2 x3 (nI n) xv) m ta io (nI (sumR (fun u => hitF (samp kind a b w) xv (lb n u)) t)) (nI (sumR (fun u => outF (samp kind a b w) (lb n u)) t)) (nI (sumR (fun u => rdsF (samp kind a b w) (lb n u)) t)) vb vr (nI t) := by
  have hpw : 2 ^ n ≤ 2 ^ 12 := Nat.pow_le_pow_right (by omega) hn
  intro m
  induction m with
  | zero => intro t ta io vb vr h; omega
  | succ m ih =>
    intro t ta io vb vr hm ht
    show wpF_M_tryAll_24 post o_length o_spent (nI n) vw x1 x2 x3 (nI n) xv (gL8 _ m) ta io _ _ _ vb vr (nI t)
    rw [wpF_M_tryAll_24, nI_shl1 (by omega)]
    refine pk_le (2 ^ n) t (fun h => ?_) (fun h => ?_)
    · have e : t = 2 ^ n := by omega
      subst e
      rw [sum_lb n (hitF (samp kind a b w) xv), sum_lb n (outF (samp kind a b w)), sum_lb n (rdsF (samp kind a b w))]
      exact hp ta io vb vr
    · have inner : ∀ (m2 k : Nat) (vb : Nat → Int32), n - k < m2 → k ≤ n → (∀ j, j < k → vb j = bI (t.testBit j)) → gL2 (wpF_M_tryAll_36 (gL8 (wpF_M_tryAll_24 post o_length o_spent (nI n) vw x1 x2 x3 (nI n) xv) m) o_length o_spent (nI n) ta io (nI (sumR (fun u => hitF (samp kind a b w) xv (lb n u)) t)) (nI (sumR (fun u => outF (samp kind a b w) (lb n u)) t)) (nI (sumR (fun u => rdsF (samp kind a b w) (lb n u)) t)) vr vw x1 x2 x3 (nI n) xv (nI t)) m2 vb (nI k) := by
        intro m2
        induction m2 with
        | zero => intro k vb h; omega
        | succ m2 ih2 =>
          intro k vb hm2 hk hv
          show wpF_M_tryAll_36 _ o_length o_spent (nI n) ta io _ _ _ vr vw x1 x2 x3 (nI n) xv (nI t) (gL2 _ m2) vb (nI k)
          rw [wpF_M_tryAll_36]
          refine pk_le n k (fun h2 => ?_) (fun h2 => ?_)
          · have hT : Tp vb 0 n (lb n t) := ⟨by rw [lb_len]; omega, fun j b hj => by
              have hlt := (List.getElem?_eq_some_iff.mp hj).1
              rw [lb_len] at hlt
              rw [Nat.zero_add, hv j (by omega), lb_get _ _ _ _ hj]⟩
            refine p_mrun hW hX (by omega) hT (fun vr' => ?_)
            have hlen := lb_len n t
            have go : ∀ (ta' io' : Int32), gL8 (wpF_M_tryAll_24 post o_length o_spent (nI n) vw x1 x2 x3 (nI n) xv) m ta' io' (nI (sumR (fun u => hitF (samp kind a b w) xv (lb n u)) t + hitF (samp kind a b w) xv (lb n t))) (nI (sumR (fun u => outF (samp kind a b w) (lb n u)) t + outF (samp kind a b w) (lb n t))) (nI (sumR (fun u => rdsF (samp kind a b w) (lb n u)) t + rdsF (samp kind a b w) (lb n t))) vb vr' (nI (t + 1)) := fun ta' io' => ih (t + 1) ta' io' vb vr' (by omega) (by omega)
            cases hq : samp kind a b w (lb n t) with
            | none =>
              have r1 : rdsF (samp kind a b w) (lb n t) = n := by unfold rdsF; rw [hq]; exact hlen
              have r2 : outF (samp kind a b w) (lb n t) = 1 := by unfold outF; rw [hq]
              have r3 : hitF (samp kind a b w) xv (lb n t) = 0 := by unfold hitF; rw [hq]
              rw [r1, r2, r3, Nat.add_zero] at go
              intro x
              rw [nI_add, nI_add, nI_add, nI_add]
              exact ⟨fun e => absurd e one_ne0, fun _ => ⟨fun _ => go _ _, fun e => absurd e one_ne0⟩⟩
            | some q =>
              intro a' hT'
              have hal := hT'.1
              have r1 : rdsF (samp kind a b w) (lb n t) = a' := by unfold rdsF; rw [hq]; show (lb n t).length - q.2.length = _; omega
              have r2 : outF (samp kind a b w) (lb n t) = 0 := by unfold outF; rw [hq]
              have r3 : hitF (samp kind a b w) xv (lb n t) = if nI q.1 = xv then 1 else 0 := by unfold hitF; rw [hq]
              rw [r1, r2, r3, Nat.add_zero] at go
              rw [nI_add, nI_add, nI_add]
              refine ⟨fun _ => ⟨fun e => absurd rfl e, fun _ => ⟨fun e => ?_, fun e => ?_⟩⟩, fun e => absurd rfl e⟩
              · rw [if_neg e, Nat.add_zero] at go
                exact go _ _
              · rw [if_pos e] at go
                exact go _ _
          · refine ⟨pk_in k 256 (by omega), ?_⟩
            rw [nI_clamp (by omega), bit_s _ (by omega), bt_nI (by omega), nI_add]
            refine ih2 (k + 1) _ (by omega) (by omega) (fun j hj => ?_)
            by_cases e : j = k
            · rw [e, pk_us]
            · rw [pk_un e]; exact hv j (by omega)
      exact ⟨n + 1, inner (n + 1) 0 vb (by omega) (by omega) (fun j h => by omega)⟩
theorem p_mtryAll {vw vr vb : Nat → Int32} {w : Nat → Nat} {x1 x2 x3 xv : Int32} {kind a b n : Nat} {post : Int32 → Int32 → Int32 → Int32 → Int32 → Int32 → (Nat → Int32) → (Nat → Int32) → Prop} (hW : Wt vw w) (hX : okX x1 x2 x3 w kind a b) (hn : n ≤ 12)
    (hp : ∀ ta io vb vr, post (nI n) ta io (nI (allS n (hitF (samp kind a b w) xv))) (nI (allS n (outF (samp kind a b w)))) (nI (allS n (rdsF (samp kind a b w)))) vb vr) : wp_M_tryAll post o_length o_spent o_many o_at o_isOut o_values o_failures o_works vb vr vw x1 x2 x3 (nI n) xv := by
  rw [wp_M_tryAll]
  exact ⟨2 ^ n + 1, m_ta hW hX hn hp (2 ^ n + 1) 0 o_at o_isOut vb vr (Nat.lt_succ_of_le (Nat.sub_le _ _)) (Nat.zero_le _)⟩
theorem p_misAll {post : Int32 → Prop} {x1 x2 x3 x4 : Int32} {vw : Nat → Int32} {w : Nat → Nat} (hW : Wt vw w) (h1 : (nI 0 ≤ x4 ∧ x4 ≤ nI 12) ∧ isF x1 x2 x3 (nI (pfx w 8)) → post (nI 1)) (h0 : ¬ ((nI 0 ≤ x4 ∧ x4 ≤ nI 12) ∧ isF x1 x2 x3 (nI (pfx w 8))) → post (nI 0)) : wp_M_isAll post o_length o_spent o_many o_at o_isOut o_values o_failures o_works vw x1 x2 x3 x4 := by
  rw [wp_M_isAll]
  refine p_misOne hW (fun g => ⟨fun e => absurd e (by decide), fun _ => ?_⟩) (fun g => ⟨fun _ => h0 (fun q => g q.2), fun e => absurd rfl e⟩)
  exact p_isWithin (post := post) (x := x4) (y := nI 0) (z := nI 12) (fun h => h1 ⟨h, g⟩) (fun h => h0 (fun q => h q.1))
section MC
variable {vw vr vb : Nat → Int32} {w : Nat → Nat} {x1 x2 x3 x4 x5 : Int32} {post : Int32 → Int32 → Int32 → Int32 → Int32 → Int32 → Int32 → (Nat → Int32) → (Nat → Int32) → Prop}
theorem p_mcount (hW : Wt vw w) (hno : ¬ ((nI 0 ≤ x4 ∧ x4 ≤ nI 12) ∧ isF x1 x2 x3 (nI (pfx w 8))) → post (-1) o_many o_at o_isOut o_values o_failures o_works vb vr) (hy : ∀ kind a b n, okX x1 x2 x3 w kind a b → n ≤ 12 → x4 = nI n → ∀ m ta io v f k vb vr, post (nI (allS n (hitF (samp kind a b w) x5))) m ta io v f k vb vr) : wp_M_count post o_length o_spent o_many o_at o_isOut o_values o_failures o_works vb vr vw x1 x2 x3 x4 x5 := by
  rw [wp_M_count]
  refine p_misAll hW (fun h => ⟨fun _ => ?_, fun e => absurd e (by decide)⟩) (fun h => ⟨fun e => absurd rfl e, fun _ => hno h⟩)
  obtain ⟨kind, a, b, hX⟩ := isF_ok (Wt_pfx hW 8 (by omega)) h.2
  obtain ⟨n, -, hn, e⟩ := nI_rng h.1.1 h.1.2 (by omega) (by omega)
  subst e
  exact p_mtryAll hW hX hn (fun ta io vb vr => hy kind a b n hX hn rfl _ ta io _ _ _ vb vr)
theorem p_mfails (hW : Wt vw w) (hno : ¬ ((nI 0 ≤ x4 ∧ x4 ≤ nI 12) ∧ isF x1 x2 x3 (nI (pfx w 8))) → post (-1) o_many o_at o_isOut o_values o_failures o_works vb vr) (hy : ∀ kind a b n, okX x1 x2 x3 w kind a b → n ≤ 12 → x4 = nI n → ∀ m ta io v f k vb vr, post (nI (allS n (outF (samp kind a b w)))) m ta io v f k vb vr) : wp_M_fails post o_length o_spent o_many o_at o_isOut o_values o_failures o_works vb vr vw x1 x2 x3 x4 := by
  rw [wp_M_fails]
  refine p_misAll hW (fun h => ⟨fun _ => ?_, fun e => absurd e (by decide)⟩) (fun h => ⟨fun e => absurd rfl e, fun _ => hno h⟩)
  obtain ⟨kind, a, b, hX⟩ := isF_ok (Wt_pfx hW 8 (by omega)) h.2
  obtain ⟨n, -, hn, e⟩ := nI_rng h.1.1 h.1.2 (by omega) (by omega)
  subst e
  exact p_mtryAll hW hX hn (fun ta io vb vr => hy kind a b n hX hn rfl _ ta io _ _ _ vb vr)
theorem p_mwork (hW : Wt vw w) (hno : ¬ ((nI 0 ≤ x4 ∧ x4 ≤ nI 12) ∧ isF x1 x2 x3 (nI (pfx w 8))) → post (-1) o_many o_at o_isOut o_values o_failures o_works vb vr) (hy : ∀ kind a b n, okX x1 x2 x3 w kind a b → n ≤ 12 → x4 = nI n → ∀ m ta io v f k vb vr, post (nI (allS n (rdsF (samp kind a b w)))) m ta io v f k vb vr) : wp_M_work post o_length o_spent o_many o_at o_isOut o_values o_failures o_works vb vr vw x1 x2 x3 x4 := by
  rw [wp_M_work]
  refine p_misAll hW (fun h => ⟨fun _ => ?_, fun e => absurd e (by decide)⟩) (fun h => ⟨fun e => absurd rfl e, fun _ => hno h⟩)
  obtain ⟨kind, a, b, hX⟩ := isF_ok (Wt_pfx hW 8 (by omega)) h.2
  obtain ⟨n, -, hn, e⟩ := nI_rng h.1.1 h.1.2 (by omega) (by omega)
  subst e
  exact p_mtryAll hW hX hn (fun ta io vb vr => hy kind a b n hX hn rfl _ ta io _ _ _ vb vr)
theorem allS_le : ∀ (n : Nat) (g : List Bool → Nat), (∀ l, g l ≤ 1) → allS n g ≤ 2 ^ n := by
  intro n
  induction n with
  | zero => intro g h; exact h []
  | succ n ih =>
    intro g h
    have h1 := ih (fun l => g (false :: l)) (fun l => h _)
    have h2 := ih (fun l => g (true :: l)) (fun l => h _)
    show allS n (fun l => g (false :: l)) + allS n (fun l => g (true :: l)) ≤ _
    rw [Nat.pow_succ]; omega
theorem hit_le (F : List Bool → Option (Nat × List Bool)) (xv : Int32) (l : List Bool) : hitF F xv l ≤ 1 := by
  unfold hitF
  cases F l with
  | none => exact Nat.zero_le _
  | some q => dsimp only; split <;> omega
set_option maxHeartbeats 1000000 in
theorem p_mfirst (hW : Wt vw w) (hno : ¬ isF x1 x2 x3 (nI (pfx w 8)) → post (-1) o_many o_at o_isOut o_values o_failures o_works vb vr) (hy : ∀ kind a b, okX x1 x2 x3 w kind a b → ∀ m ta io v f k vb vr, post (nI (fewF (samp kind a b w) 12 x4 (2 ^ 12))) m ta io v f k vb vr) : wp_M_first post o_length o_spent o_many o_at o_isOut o_values o_failures o_works vb vr vw x1 x2 x3 x4 := by
  rw [wp_M_first]
  refine p_misOne hW (fun h => ⟨fun _ => ?_, fun e => absurd e (by decide)⟩) (fun h => ⟨fun e => absurd rfl e, fun _ => hno h⟩)
  obtain ⟨kind, a, b, hX⟩ := isF_ok (Wt_pfx hW 8 (by omega)) h
  have hF := pf_samp kind a b w
  have hy := hy kind a b hX
  have h13 := fewF_le (F := samp kind a b w) (n := 12) x4 (2 ^ 12)
  have hin : fewF (samp kind a b w) 12 x4 (2 ^ 12) ≤ 12 → _ := few_in (F := samp kind a b w) hF (xv := x4)
  have hlt : ∀ m, m ≤ 12 → 0 < allS m (hitF (samp kind a b w) x4) → fewF (samp kind a b w) 12 x4 (2 ^ 12) ≤ m := fun m hm h0 => few_lt (F := samp kind a b w) hF hm h0
  generalize fewF (samp kind a b w) 12 x4 (2 ^ 12) = T at hy h13 hin hlt
  have loop : ∀ (n m : Nat) (om ta io v f k : Int32) (vb vr : Nat → Int32), 13 - m < n → m ≤ T → gL9 (wpF_M_first_15 post o_length o_spent vw x1 x2 x3 x4) n om ta io v f k vb vr (nI m) := by
    intro n
    induction n with
    | zero => intro m om ta io v f k vb vr h; omega
    | succ n ih =>
      intro m om ta io v f k vb vr hn hm
      show wpF_M_first_15 post o_length o_spent vw x1 x2 x3 x4 (gL9 _ n) om ta io v f k vb vr (nI m)
      rw [wpF_M_first_15]
      refine pk_lt 12 m (fun h => ?_) (fun h => ?_)
      · have e : T = 13 := by omega
        subst e
        exact hy _ _ _ _ _ _ _ _
      · refine p_mtryAll hW hX h (fun ta io vb vr => ?_)
        have hle := allS_le m (hitF (samp kind a b w) x4) (hit_le _ _)
        have hpw : 2 ^ m ≤ 2 ^ 12 := Nat.pow_le_pow_right (by omega) h
        refine ⟨fun c => ?_, fun c => ?_⟩
        · have e0 := (nI_l0 (by omega)).mp c
          rw [nI_add]
          refine ih (m + 1) _ _ _ _ _ _ _ _ (by omega) ?_
          rcases Nat.lt_or_ge m T with q | q
          · exact q
          · have e : T = m := by omega
            subst e
            have := hin (by omega)
            omega
        · have h0 : 0 < allS m (hitF (samp kind a b w) x4) := Nat.pos_of_ne_zero (fun e => c ((nI_l0 (by omega)).mpr e))
          have e : T = m := by have := hlt m h h0; omega
          subst e
          exact hy _ _ _ _ _ _ _ _
  exact ⟨14, loop 14 0 _ _ _ _ _ _ vb vr (by omega) (by omega)⟩
end MC
end MP
theorem okX_uni {x1 x2 x3 : Int32} {w : Nat → Nat} {k a b k' a' b' : Nat} (h : okX x1 x2 x3 w k a b) (h' : okX x1 x2 x3 w k' a' b') : samp k a b w = samp k' a' b' w := by
  obtain ⟨hk, e1, hO, h2, h3⟩ := h
  obtain ⟨hk', e1', hO', h2', h3'⟩ := h'
  have e : k = k' := (nI_eq (by omega) (by omega)).mp (e1.symm.trans e1')
  subst e
  rcases (show k = 0 ∨ k = 1 ∨ k = 2 ∨ k = 3 ∨ k = 4 ∨ k = 5 ∨ k = 6 ∨ k = 7 by omega) with rfl | rfl | rfl | rfl | rfl | rfl | rfl | rfl
  · have ea : a = a' := (nI_eq (by have := hO.2; omega) (by have := hO'.2; omega)).mp ((h2 (by decide)).symm.trans (h2' (by decide)))
    subst ea; rfl
  · have ea : a = a' := (nI_eq (by have := hO.2; omega) (by have := hO'.2; omega)).mp ((h2 (by decide)).symm.trans (h2' (by decide)))
    subst ea; rfl
  · obtain ⟨q1, q2, q3⟩ := hO
    obtain ⟨p1, p2, p3⟩ := hO'
    have ea : a = a' := (nI_eq (by omega) (by omega)).mp ((h2 (by decide)).symm.trans (h2' (by decide)))
    have eb : b = b' := (nI_eq (by omega) (by omega)).mp ((h3 (by decide)).symm.trans (h3' (by decide)))
    subst ea; subst eb; rfl
  · have q : a ≤ 12 := hO
    have p : a' ≤ 12 := hO'
    have ea : a = a' := (nI_eq (by omega) (by omega)).mp ((h2 (by decide)).symm.trans (h2' (by decide)))
    subst ea; rfl
  · have q : a ≤ 12 := hO
    have p : a' ≤ 12 := hO'
    have ea : a = a' := (nI_eq (by omega) (by omega)).mp ((h2 (by decide)).symm.trans (h2' (by decide)))
    subst ea; rfl
  · have ea : a = a' := (nI_eq (by have := hO.2; omega) (by have := hO'.2; omega)).mp ((h2 (by decide)).symm.trans (h2' (by decide)))
    subst ea; rfl
  · obtain ⟨q1, q2, q3⟩ := hO
    obtain ⟨p1, p2, p3⟩ := hO'
    have ea : a = a' := (nI_eq (by omega) (by omega)).mp ((h2 (by decide)).symm.trans (h2' (by decide)))
    have eb : b = b' := (nI_eq (by omega) (by omega)).mp ((h3 (by decide)).symm.trans (h3' (by decide)))
    subst ea; subst eb; rfl
  · rfl
