def LI (c_latestSpent : Int32) (vw : Nat → Int32) (t_size : Int32) (vb : Nat → Int32) (o_length o_spent : Int32) (vow voq : Nat → Int32) : Prop :=
  ∃ (w : Nat → Nat) (l : List Bool) (sz : Nat), Wt vw w ∧ Wt vow w ∧ Tp vb 0 sz l ∧ Tp voq 0 sz l ∧ sz ≤ 256 ∧ t_size = nI sz ∧ o_length = nI sz ∧ c_latestSpent = o_spent
theorem Wt.put {vw : Nat → Int32} {w : Nat → Nat} (h : Wt vw w) {i n : Nat} (hn : n ≤ 15) : Wt (upd vw i (nI n)) (fun j => if j = i then n else w j) := by
  intro j hj
  by_cases e : j = i
  · rw [e, pk_us]
    dsimp only
    rw [if_pos rfl]
    exact ⟨rfl, hn⟩
  · rw [pk_un e]
    dsimp only
    rw [if_neg e]
    exact h j hj
theorem law_go {sL i : Nat} (hs : sL ≤ 3072) (hi : i ≤ 4000) (h : ¬ (nI sL - nI 6) < nI i) : i + 6 ≤ sL := by
  have h1 := Int32.le_iff_toInt_le.mp (Int32.not_lt.mp h)
  rw [nI_toInt (by omega), pk_sub_toInt (by omega) (by omega)] at h1
  omega

theorem okX_isF {x1 x2 x3 : Int32} {w : Nat → Nat} {kind a b : Nat} (h : okX x1 x2 x3 w kind a b) : isF x1 x2 x3 (nI (pfx w 8)) := by
  obtain ⟨hk, rfl, hO, h2, h3⟩ := h
  unfold isF
  have L : ∀ {a b : Nat}, a < 2 ^ 31 → b < 2 ^ 31 → a ≤ b → nI a ≤ nI b := fun ha hb h => (nI_leI ha hb).mpr h
  rcases (show kind = 0 ∨ kind = 1 ∨ kind = 2 ∨ kind = 3 ∨ kind = 4 ∨ kind = 5 ∨ kind = 6 ∨ kind = 7 by omega) with rfl | rfl | rfl | rfl | rfl | rfl | rfl | rfl
  · obtain ⟨q1, q2⟩ := hO
    rw [if_pos rfl, h2 (by decide)]
    exact ⟨L (by omega) (by omega) q1, L (by omega) (by omega) q2⟩
  · obtain ⟨q1, q2⟩ := hO
    rw [if_neg (by decide), if_pos rfl, h2 (by decide)]
    exact ⟨L (by omega) (by omega) q1, L (by omega) (by omega) q2⟩
  · obtain ⟨q1, q2, q3⟩ := hO
    rw [if_neg (by decide), if_neg (by decide), if_pos rfl, h2 (by decide), h3 (by decide)]
    exact ⟨⟨L (by omega) (by omega) q1, L (by omega) (by omega) q2⟩, L (by omega) (by omega) (Nat.zero_le _), L (by omega) (by omega) q3⟩
  · have q : a ≤ 12 := hO
    rw [if_neg (by decide), if_neg (by decide), if_neg (by decide), if_pos rfl, h2 (by decide)]
    exact ⟨L (by omega) (by omega) (Nat.zero_le _), L (by omega) (by omega) q⟩
  · have q : a ≤ 12 := hO
    rw [if_neg (by decide), if_neg (by decide), if_neg (by decide), if_neg (by decide), if_pos rfl, h2 (by decide)]
    exact ⟨L (by omega) (by omega) (Nat.zero_le _), L (by omega) (by omega) q⟩
  · obtain ⟨q1, q2⟩ := hO
    rw [if_neg (by decide), if_neg (by decide), if_neg (by decide), if_neg (by decide), if_neg (by decide), if_pos rfl, h2 (by decide)]
    exact ⟨L (by omega) (by omega) q1, L (by omega) (by omega) q2⟩
  · obtain ⟨q1, q2, q3⟩ := hO
    rw [if_neg (by decide), if_neg (by decide), if_neg (by decide), if_neg (by decide), if_neg (by decide), if_neg (by decide), if_pos rfl, h2 (by decide), h3 (by decide)]
    exact ⟨⟨L (by omega) (by omega) q1, L (by omega) (by omega) q2⟩, L (by omega) (by omega) (Nat.zero_le _), L (by omega) (by omega) q3⟩
  · obtain ⟨q1, q2⟩ := hO
    rw [if_neg (by decide), if_neg (by decide), if_neg (by decide), if_neg (by decide), if_neg (by decide), if_neg (by decide), if_neg (by decide), if_pos rfl]
    exact ⟨L (by omega) (by omega) q1, L (by omega) (by omega) q2⟩
theorem cnt_ok {x1 x2 x3 x4 : Int32} {w : Nat → Nat} {kind a b n : Nat} (h : okX x1 x2 x3 w kind a b) (hn : n ≤ 12) (e : x4 = nI n) : (nI 0 ≤ x4 ∧ x4 ≤ nI 12) ∧ isF x1 x2 x3 (nI (pfx w 8)) := by
  subst e
  exact ⟨⟨(nI_leI (by omega) (by omega)).mpr (Nat.zero_le _), (nI_leI (by omega) (by omega)).mpr hn⟩, okX_isF h⟩
theorem samp_len {kind a b : Nat} {w : Nat → Nat} {l : List Bool} {q : Nat × List Bool} (h : samp kind a b w l = some q) : q.2.length ≤ l.length := by
  obtain ⟨p, e, _⟩ := pf_samp kind a b w _ _ h
  rw [e, List.length_append]
  omega
set_option maxHeartbeats 4000000 in
set_option maxRecDepth 10000 in
theorem law_loop {sL : Nat} {xs : Nat → Int32} (hs : sL ≤ 3072) : ∀ (n i : Nat) (c_latestSpent : Int32) (vw : Nat → Int32) (vr : Nat → Int32) (t_size : Int32) (t_at : Int32) (vb : Nat → Int32) (k_size : Int32) (k_at : Int32) (vkb : Nat → Int32) (y_hits : Int32) (y_runOuts : Int32) (y_bitsRead : Int32) (y_fewestBits : Int32) (o_length : Int32) (o_spent : Int32) (o_many : Int32) (o_at : Int32) (o_isOut : Int32) (o_values : Int32) (o_failures : Int32) (o_works : Int32) (vow : Nat → Int32) (voq : Nat → Int32) (vob : Nat → Int32) (vor : Nat → Int32), 4000 - i < n → i ≤ 3999 → LI c_latestSpent vw t_size vb o_length o_spent vow voq → gL26 (wpF_L_law_18 sL xs) n c_latestSpent vw vr t_size t_at vb k_size k_at vkb y_hits y_runOuts y_bitsRead y_fewestBits o_length o_spent o_many o_at o_isOut o_values o_failures o_works vow voq vob vor (nI i) := by
  intro n
  induction n with
  | zero => intro i c_latestSpent vw vr t_size t_at vb k_size k_at vkb y_hits y_runOuts y_bitsRead y_fewestBits o_length o_spent o_many o_at o_isOut o_values o_failures o_works vow voq vob vor h; omega
  | succ n ih =>
    intro i c_latestSpent vw vr t_size t_at vb k_size k_at vkb y_hits y_runOuts y_bitsRead y_fewestBits o_length o_spent o_many o_at o_isOut o_values o_failures o_works vow voq vob vor hn hi hI
    show wpF_L_law_18 sL xs (gL26 _ n) c_latestSpent vw vr t_size t_at vb k_size k_at vkb y_hits y_runOuts y_bitsRead y_fewestBits o_length o_spent o_many o_at o_isOut o_values o_failures o_works vow voq vob vor (nI i)
    rw [wpF_L_law_18]
    refine ⟨fun _ => trivial, fun h0 => ?_⟩
    have h6 := law_go hs (by omega) h0
    have hv : ∀ k, k < 6 → vp_in (nI i + nI k) sL := fun k hk => by rw [nI_add]; exact pk_in (i + k) sL (by omega)
    have v0 : vp_in (nI i) sL := pk_in i sL (by omega)
    have v1 := hv 1 (by omega)
    have v2 := hv 2 (by omega)
    have v3 := hv 3 (by omega)
    have v4 := hv 4 (by omega)
    have v5 := hv 5 (by omega)
    have next : ∀ (c_latestSpent : Int32) (vw : Nat → Int32) (vr : Nat → Int32) (t_size : Int32) (t_at : Int32) (vb : Nat → Int32) (k_size : Int32) (k_at : Int32) (vkb : Nat → Int32) (y_hits : Int32) (y_runOuts : Int32) (y_bitsRead : Int32) (y_fewestBits : Int32) (o_length : Int32) (o_spent : Int32) (o_many : Int32) (o_at : Int32) (o_isOut : Int32) (o_values : Int32) (o_failures : Int32) (o_works : Int32) (vow : Nat → Int32) (voq : Nat → Int32) (vob : Nat → Int32) (vor : Nat → Int32), LI c_latestSpent vw t_size vb o_length o_spent vow voq → gL26 (wpF_L_law_18 sL xs) n c_latestSpent vw vr t_size t_at vb k_size k_at vkb y_hits y_runOuts y_bitsRead y_fewestBits o_length o_spent o_many o_at o_isOut o_values o_failures o_works vow voq vob vor (nI i + nI 6) := by
      intro c_latestSpent vw vr t_size t_at vb k_size k_at vkb y_hits y_runOuts y_bitsRead y_fewestBits o_length o_spent o_many o_at o_isOut o_values o_failures o_works vow voq vob vor hI
      rw [nI_add]
      exact ih (i + 6) c_latestSpent vw vr t_size t_at vb k_size k_at vkb y_hits y_runOuts y_bitsRead y_fewestBits o_length o_spent o_many o_at o_isOut o_values o_failures o_works vow voq vob vor (by omega) (by omega) hI
    clear ih h0 hv
    generalize nI i = I at *
    refine ⟨v0, ?_⟩
    generalize xs (I + nI 1).toNatClampNeg = p1
    generalize xs (I + nI 2).toNatClampNeg = p2
    generalize xs (I + nI 3).toNatClampNeg = p3
    generalize xs (I + nI 4).toNatClampNeg = p4
    generalize xs (I + nI 5).toNatClampNeg = p5
    generalize (xs I.toNatClampNeg &&& nI 15) = op
    obtain ⟨w, l, sz, hW, hWo, hT, hTo, hz, rfl, rfl, rfl⟩ := id hI
    refine ⟨fun c0 => ?_, fun c0 => ?_⟩
    · refine ⟨v1, v2, p_weigh (fun hno => ⟨v1, v2, p_mweigh (fun _ => ⟨fun _ => next _ _ _ _ _ _ _ _ _ _ _ _ _ _ _ _ _ _ _ _ _ _ _ _ _ hI, fun e => absurd rfl e⟩) (fun i n h => absurd h (hno i n))⟩) (fun i n h => ⟨v1, v2, p_mweigh (fun hno => absurd h (hno i n)) (fun i' n' h' => ?_)⟩)⟩
      obtain ⟨a1, a2, a3, a4⟩ := h
      obtain ⟨b1, b2, b3, b4⟩ := h'
      have e1 : i = i' := (nI_eq (by omega) (by omega)).mp (a3.symm.trans b3)
      have e2 : n = n' := (nI_eq (by omega) (by omega)).mp (a4.symm.trans b4)
      subst e1; subst e2
      exact ⟨fun _ => next _ _ _ _ _ _ _ _ _ _ _ _ _ _ _ _ _ _ _ _ _ _ _ _ _ ⟨_, l, sz, hW.put a2, hWo.put a2, hT, hTo, hz, rfl, rfl, rfl⟩, fun e => absurd rfl e⟩
    refine ⟨fun c1 => ?_, fun c1 => ?_⟩
    · refine ⟨v1, p_weight (fun hno => ⟨v1, p_mweight (fun _ => ⟨fun _ => next _ _ _ _ _ _ _ _ _ _ _ _ _ _ _ _ _ _ _ _ _ _ _ _ _ hI, fun e => absurd rfl e⟩) (fun i hi e => absurd (by rw [e]; exact ⟨(nI_leI (by omega) (by omega)).mpr (by omega), (nI_leI (by omega) (by omega)).mpr (by omega)⟩) hno)⟩) (fun i hi e => ⟨v1, p_mweight (fun hno => absurd (by rw [e]; exact ⟨(nI_leI (by omega) (by omega)).mpr (by omega), (nI_leI (by omega) (by omega)).mpr (by omega)⟩) hno) (fun i' hi' e' => ?_)⟩)⟩
      have e1 : i = i' := (nI_eq (by omega) (by omega)).mp (e.symm.trans e')
      subst e1
      rw [(hW i hi).1, (hWo i hi).1]
      exact ⟨fun _ => next _ _ _ _ _ _ _ _ _ _ _ _ _ _ _ _ _ _ _ _ _ _ _ _ _ hI, fun e => absurd rfl e⟩
    refine ⟨fun c2 => ?_, fun c2 => ?_⟩
    · refine ⟨v1, v2, p_feed hz hT (fun hno => ⟨v1, v2, p_mfeed hz hTo (fun _ => ⟨fun _ => next _ _ _ _ _ _ _ _ _ _ _ _ _ _ _ _ _ _ _ _ _ _ _ _ _ hI, fun e => absurd rfl e⟩) (fun n f' h => absurd h (hno n))⟩) (fun n f' h hT' => ⟨v1, v2, p_mfeed hz hTo (fun hno => absurd h (hno n)) (fun n' f'' h' hT'' => ?_)⟩)⟩
      have e1 : n = n' := (nI_eq (by have := h.1; omega) (by have := h'.1; omega)).mp (h.2.1.symm.trans h'.2.1)
      subst e1
      exact ⟨fun _ => next _ _ _ _ _ _ _ _ _ _ _ _ _ _ _ _ _ _ _ _ _ _ _ _ _ ⟨w, _, _, hW, hWo, hT', hT'', h.2.2, rfl, rfl, rfl⟩, fun e => absurd rfl e⟩
    refine ⟨fun c3 => ?_, fun c3 => ?_⟩
    · rw [wp_C_left, wp_T_size, wp_M_left]
      exact ⟨fun _ => next _ _ _ _ _ _ _ _ _ _ _ _ _ _ _ _ _ _ _ _ _ _ _ _ _ hI, fun e => absurd rfl e⟩
    refine ⟨fun c4 => ?_, fun c4 => ?_⟩
    · exact ⟨v1, v2, v3, p_isOne hW (fun g => ⟨v1, v2, v3, p_misOne hWo (fun _ => ⟨fun _ => next _ _ _ _ _ _ _ _ _ _ _ _ _ _ _ _ _ _ _ _ _ _ _ _ _ hI, fun e => absurd rfl e⟩) (fun g' => absurd g g')⟩) (fun g => ⟨v1, v2, v3, p_misOne hWo (fun g' => absurd g' g) (fun _ => ⟨fun _ => next _ _ _ _ _ _ _ _ _ _ _ _ _ _ _ _ _ _ _ _ _ _ _ _ _ hI, fun e => absurd rfl e⟩)⟩)⟩
    refine ⟨fun c5 => ?_, fun c5 => ?_⟩
    · have hlen : l.length = sz := by have := hT.1; omega
      refine ⟨v1, v2, v3, p_draw hW hz hT (fun g => ⟨v1, v2, v3, p_mdraw hWo hz hTo (fun _ => ⟨fun _ => next _ _ _ _ _ _ _ _ _ _ _ _ _ _ _ _ _ _ _ _ _ _ _ _ _ hI, fun e => absurd rfl e⟩) (fun kind a b hX => absurd (okX_isF hX) g)⟩) (fun kind a b hX => ?_)⟩
      cases hq : samp kind a b w l with
      | none =>
        intro vr' ta'
        refine ⟨v1, v2, v3, p_mdraw hWo hz hTo (fun g => absurd (okX_isF hX) g) (fun kind' a' b' hX' => ?_)⟩
        rw [okX_uni hX' hX, hq]
        exact fun m a i vb vr => ⟨fun _ => next _ _ _ _ _ _ _ _ _ _ _ _ _ _ _ _ _ _ _ _ _ _ _ _ _ ⟨w, l, sz, hW, hWo, hT, hTo, hz, rfl, rfl, rfl⟩, fun e => absurd rfl e⟩
      | some q =>
        intro vr' f' hT'
        have hql := samp_len hq
        refine ⟨v1, v2, v3, p_mdraw hWo hz hTo (fun g => absurd (okX_isF hX) g) (fun kind' a' b' hX' => ?_)⟩
        rw [okX_uni hX' hX, hq]
        exact fun m a i vb vr vq' hTq => ⟨fun _ => next _ _ _ _ _ _ _ _ _ _ _ _ _ _ _ _ _ _ _ _ _ _ _ _ _ ⟨w, q.2, q.2.length, hW, hWo, hT', hTq, by omega, rfl, rfl, rfl⟩, fun e => absurd rfl e⟩
    refine ⟨fun c6 => ?_, fun c6 => ?_⟩
    · rw [wp_C_spent, wp_M_spent]
      exact ⟨fun _ => next _ _ _ _ _ _ _ _ _ _ _ _ _ _ _ _ _ _ _ _ _ _ _ _ _ hI, fun e => absurd rfl e⟩
    refine ⟨fun c7 => ?_, fun c7 => ?_⟩
    · refine ⟨v1, v2, v3, v4, v5, p_count hW (fun g => ⟨v1, v2, v3, v4, v5, p_mcount hWo (fun _ => ⟨fun _ => next _ _ _ _ _ _ _ _ _ _ _ _ _ _ _ _ _ _ _ _ _ _ _ _ _ hI, fun e => absurd rfl e⟩) (fun kind a b n hX hn e => absurd (cnt_ok hX hn e) g)⟩) (fun kind a b n hX hn e => ?_)⟩
      intro vr' sz' ta' vb' y1' y2' y3' y4'
      refine ⟨v1, v2, v3, v4, v5, p_mcount hWo (fun g => absurd (cnt_ok hX hn e) g) (fun kind' a' b' n' hX' hn' e' => ?_)⟩
      have en : n' = n := (nI_eq (by omega) (by omega)).mp (e'.symm.trans e)
      subst en
      rw [okX_uni hX' hX]
      exact fun m ta io v f k vb vr => ⟨fun _ => next _ _ _ _ _ _ _ _ _ _ _ _ _ _ _ _ _ _ _ _ _ _ _ _ _ ⟨w, l, sz, hW, hWo, hT, hTo, hz, rfl, rfl, rfl⟩, fun e => absurd rfl e⟩
    refine ⟨fun c8 => ?_, fun c8 => ?_⟩
    · refine ⟨v1, v2, v3, v4, p_fails hW (fun g => ⟨v1, v2, v3, v4, p_mfails hWo (fun _ => ⟨fun _ => next _ _ _ _ _ _ _ _ _ _ _ _ _ _ _ _ _ _ _ _ _ _ _ _ _ hI, fun e => absurd rfl e⟩) (fun kind a b n hX hn e => absurd (cnt_ok hX hn e) g)⟩) (fun kind a b n hX hn e => ?_)⟩
      intro vr' sz' ta' vb' y1' y2' y3' y4'
      refine ⟨v1, v2, v3, v4, p_mfails hWo (fun g => absurd (cnt_ok hX hn e) g) (fun kind' a' b' n' hX' hn' e' => ?_)⟩
      have en : n' = n := (nI_eq (by omega) (by omega)).mp (e'.symm.trans e)
      subst en
      rw [okX_uni hX' hX]
      exact fun m ta io v f k vb vr => ⟨fun _ => next _ _ _ _ _ _ _ _ _ _ _ _ _ _ _ _ _ _ _ _ _ _ _ _ _ ⟨w, l, sz, hW, hWo, hT, hTo, hz, rfl, rfl, rfl⟩, fun e => absurd rfl e⟩
    refine ⟨fun c9 => ?_, fun c9 => ?_⟩
    · refine ⟨v1, v2, v3, v4, p_work hW (fun g => ⟨v1, v2, v3, v4, p_mwork hWo (fun _ => ⟨fun _ => next _ _ _ _ _ _ _ _ _ _ _ _ _ _ _ _ _ _ _ _ _ _ _ _ _ hI, fun e => absurd rfl e⟩) (fun kind a b n hX hn e => absurd (cnt_ok hX hn e) g)⟩) (fun kind a b n hX hn e => ?_)⟩
      intro vr' sz' ta' vb' y1' y2' y3' y4'
      refine ⟨v1, v2, v3, v4, p_mwork hWo (fun g => absurd (cnt_ok hX hn e) g) (fun kind' a' b' n' hX' hn' e' => ?_)⟩
      have en : n' = n := (nI_eq (by omega) (by omega)).mp (e'.symm.trans e)
      subst en
      rw [okX_uni hX' hX]
      exact fun m ta io v f k vb vr => ⟨fun _ => next _ _ _ _ _ _ _ _ _ _ _ _ _ _ _ _ _ _ _ _ _ _ _ _ _ ⟨w, l, sz, hW, hWo, hT, hTo, hz, rfl, rfl, rfl⟩, fun e => absurd rfl e⟩
    refine ⟨fun c10 => ?_, fun c10 => ?_⟩
    · refine ⟨v1, v2, v3, v4, p_first hW (fun g => ⟨v1, v2, v3, v4, p_mfirst hWo (fun _ => ⟨fun _ => next _ _ _ _ _ _ _ _ _ _ _ _ _ _ _ _ _ _ _ _ _ _ _ _ _ hI, fun e => absurd rfl e⟩) (fun kind a b hX => absurd (okX_isF hX) g)⟩) (fun kind a b hX => ?_)⟩
      intro vr' sz' ta' vb' y1' y2' y3' y4'
      refine ⟨v1, v2, v3, v4, p_mfirst hWo (fun g => absurd (okX_isF hX) g) (fun kind' a' b' hX' => ?_)⟩
      rw [okX_uni hX' hX]
      exact fun m ta io v f k vb vr => ⟨fun _ => next _ _ _ _ _ _ _ _ _ _ _ _ _ _ _ _ _ _ _ _ _ _ _ _ _ ⟨w, l, sz, hW, hWo, hT, hTo, hz, rfl, rfl, rfl⟩, fun e => absurd rfl e⟩
    exact next _ _ _ _ _ _ _ _ _ _ _ _ _ _ _ _ _ _ _ _ _ _ _ _ _ hI
theorem p_cinit {post : (Nat → Int32) → Prop} (h : ∀ vw, (∀ j, j < 8 → vw j = nI 1) → post vw) : wp_C_init post := by
  rw [wp_C_init]
  have loop : ∀ (n i : Nat) (vw : Nat → Int32), 8 - i < n → i ≤ 8 → (∀ j, j < i → vw j = nI 1) → gL2 (wpF_C_init_14 post) n vw (nI i) := by
    intro n
    induction n with
    | zero => intro i vw h; omega
    | succ n ih =>
      intro i vw hn hi hv
      show wpF_C_init_14 post (gL2 _ n) vw (nI i)
      rw [wpF_C_init_14]
      refine pk_le 8 i (fun q => h vw (fun j hj => hv j (by omega))) (fun q => ⟨pk_in i 8 q, ?_⟩)
      rw [nI_clamp (by omega), nI_add]
      refine ih (i + 1) _ (by omega) (by omega) (fun j hj => ?_)
      by_cases e : j = i
      · rw [e, pk_us]
      · rw [pk_un e]; exact hv j (by omega)
  exact ⟨9, loop 9 0 _ (by omega) (by omega) (fun j h => by omega)⟩
theorem p_minit {post : (Nat → Int32) → Prop} (h : ∀ vw, (∀ j, j < 8 → vw j = nI 1) → post vw) : wp_M_init post := by
  rw [wp_M_init]
  have loop : ∀ (n i : Nat) (vw : Nat → Int32), 8 - i < n → i ≤ 8 → (∀ j, j < i → vw j = nI 1) → gL2 (wpF_M_init_39 post) n vw (nI i) := by
    intro n
    induction n with
    | zero => intro i vw h; omega
    | succ n ih =>
      intro i vw hn hi hv
      show wpF_M_init_39 post (gL2 _ n) vw (nI i)
      rw [wpF_M_init_39]
      refine pk_le 8 i (fun q => h vw (fun j hj => hv j (by omega))) (fun q => ⟨pk_in i 8 q, ?_⟩)
      rw [nI_clamp (by omega), nI_add]
      refine ih (i + 1) _ (by omega) (by omega) (fun j hj => ?_)
      by_cases e : j = i
      · rw [e, pk_us]
      · rw [pk_un e]; exact hv j (by omega)
  exact ⟨9, loop 9 0 _ (by omega) (by omega) (fun j h => by omega)⟩
theorem law_pure {sL : Nat} (hL : sL ≤ 3072) (xs : Nat → Int32) : wp_L_law sL xs := by
  rw [wp_L_law]
  refine p_cinit (fun vw hw => p_minit (fun vow how => ⟨4001, ?_⟩))
  refine law_loop hL 4001 0 _ vw _ _ _ _ _ _ _ _ _ _ _ _ _ _ _ _ _ _ _ vow _ _ _ (by omega) (by omega) ?_
  exact ⟨fun _ => 1, [], 0, fun j hj => ⟨hw j hj, by show 1 ≤ 15; decide⟩, fun j hj => ⟨how j hj, by show 1 ≤ 15; decide⟩, ⟨rfl, fun j b hj => by simp at hj⟩, ⟨rfl, fun j b hj => by simp at hj⟩, by decide, rfl, rfl, rfl⟩
