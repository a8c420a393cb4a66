theorem Tp.congr {f g : Nat → Int32} {a sz : Nat} {l : List Bool} (h : Tp f a sz l) (e : ∀ j, j < sz → g j = f j) : Tp g a sz l := by
  obtain ⟨h1, h2⟩ := h
  refine ⟨h1, fun j b hj => ?_⟩
  have hlt := (List.getElem?_eq_some_iff.mp hj).1
  rw [e _ (by omega)]
  exact h2 j b hj
section MP
variable {o_length o_spent o_many o_at o_isOut o_values o_failures o_works : Int32}
theorem m_fe {x : Int32} {post : Int32 → Int32 → (Nat → Int32) → Prop} : ∀ (n k s : Nat) (f : Nat → Int32) (pre : List Bool), k < n → k ≤ 32 → s + k ≤ 256 → Tp f 0 s pre → (∀ f', Tp f' 0 (s + k) (pre ++ bitsO x k) → post (nI (s + k)) (nI (s + k)) f') → gL3 (wpF_M_feed_28 post x) n (nI s) f (nI k - nI 1) := by
  intro n
  induction n with
  | zero => intro k s f pre h; omega
  | succ n ih =>
    intro k s f pre hn hk hs hT hp
    show wpF_M_feed_28 post x (gL3 _ n) (nI s) f (nI k - nI 1)
    rw [wpF_M_feed_28]
    cases k with
    | zero =>
      refine ⟨fun _ => ?_, fun h => absurd (by decide) h⟩
      have := hp f (by simpa [bitsO] using hT)
      simpa using this
    | succ k =>
      rw [pk_sub (by omega : 1 ≤ k + 1), Nat.add_sub_cancel]
      refine ⟨fun h => absurd h (nI_pos (by omega)), fun _ => ⟨pk_in s 256 (by omega), ?_⟩⟩
      rw [nI_clamp (by omega), bit_s x (by omega), nI_m, nI_add]
      refine ih k (s + 1) _ (pre ++ [bt x k]) (by omega) (by omega) (by omega) (hT.snoc _) (fun f' hT' => ?_)
      rw [show s + 1 + k = s + (k + 1) by omega] at hT' ⊢
      refine hp f' ?_
      rw [show bitsO x (k + 1) = bt x k :: bitsO x k from rfl, List.append_cons]
      exact hT'
theorem p_mfeed {x1 x2 : Int32} {sz : Nat} {f : Nat → Int32} {l : List Bool} {post : Int32 → Int32 → (Nat → Int32) → Prop} (hz : sz ≤ 256) (hT : Tp f 0 sz l) (hno : (∀ n, ¬ fdOk x2 sz 256 n) → post (-1) (nI sz) f) (hy : ∀ n f', fdOk x2 sz 256 n → Tp f' 0 (sz + n) (l ++ bitsO x1 n) → post (nI (sz + n)) (nI (sz + n)) f') : wp_M_feed post (nI sz) o_spent o_many o_at o_isOut o_values o_failures o_works f x1 x2 := by
  rw [wp_M_feed]
  refine ⟨fun h => hno (fun n q => absurd (q.2.1 ▸ h) (nI_pos (by have := q.1; omega))), fun h => ?_⟩
  obtain ⟨n, hn, rfl⟩ := nI_of h
  refine pk_lt 32 n (fun h2 => hno (fun m q => ?_)) (fun h2 => ?_)
  · have := (nI_eq hn (by have := q.1; omega)).mp q.2.1
    have := q.1
    omega
  · rw [nI_add]
    refine pk_le (sz + n) 256 (fun h3 => ?_) (fun h3 => hno (fun m q => ?_))
    · exact ⟨n + 1, m_fe (n + 1) n sz f l (by omega) h2 (by omega) hT (fun f' hT' => hy n f' ⟨h2, rfl, by omega⟩ hT')⟩
    · have := (nI_eq hn (by have := q.1; omega)).mp q.2.1
      have := q.2.2
      omega
def wgOk (x1 x2 : Int32) (i n : Nat) : Prop := i < 8 ∧ n ≤ 15 ∧ x1 = nI i ∧ x2 = nI n
theorem wg_of {x1 x2 : Int32} (h1 : nI 0 ≤ x1 ∧ x1 ≤ nI 7) (h2 : nI 0 ≤ x2 ∧ x2 ≤ nI 15) : ∃ i n, wgOk x1 x2 i n := by
  obtain ⟨i, _, hi, e1⟩ := nI_rng h1.1 h1.2 (by omega) (by omega)
  obtain ⟨n, _, hn, e2⟩ := nI_rng h2.1 h2.2 (by omega) (by omega)
  exact ⟨i, n, by omega, hn, e1, e2⟩
theorem p_weigh {x x1 x2 : Int32} {vw : Nat → Int32} {post : Int32 → (Nat → Int32) → Prop} (hno : (∀ i n, ¬ wgOk x1 x2 i n) → post (nI 0) vw) (hy : ∀ i n, wgOk x1 x2 i n → post (nI 1) (upd vw i (nI n))) : wp_C_weigh post x vw x1 x2 := by
  rw [wp_C_weigh]
  have bad1 : ¬ (nI 0 ≤ x1 ∧ x1 ≤ nI 7) → post (nI 0) vw := fun h => hno (fun i n q => h (by
    obtain ⟨q1, q2, rfl, rfl⟩ := q
    exact ⟨(nI_leI (by omega) (by omega)).mpr (by omega), (nI_leI (by omega) (by omega)).mpr (by omega)⟩))
  have bad2 : ¬ (nI 0 ≤ x2 ∧ x2 ≤ nI 15) → post (nI 0) vw := fun h => hno (fun i n q => h (by
    obtain ⟨q1, q2, rfl, rfl⟩ := q
    exact ⟨(nI_leI (by omega) (by omega)).mpr (by omega), (nI_leI (by omega) (by omega)).mpr (by omega)⟩))
  refine p_isWithin (fun h => ⟨fun e => absurd e (by decide), fun _ => ?_⟩) (fun h => ⟨fun _ => bad1 h, fun e => absurd rfl e⟩)
  refine p_isWithin (fun h2 => ⟨fun _ => ?_, fun e => absurd e (by decide)⟩) (fun h2 => ⟨fun e => absurd rfl e, fun _ => bad2 h2⟩)
  obtain ⟨i, n, hw⟩ := wg_of h h2
  have hy2 := hy i n hw
  obtain ⟨q1, q2, rfl, rfl⟩ := hw
  rw [nI_clamp (by omega)]
  exact ⟨pk_in i 8 q1, hy2⟩
theorem p_mweigh {x1 x2 : Int32} {vw : Nat → Int32} {post : Int32 → (Nat → Int32) → Prop} (hno : (∀ i n, ¬ wgOk x1 x2 i n) → post (nI 0) vw) (hy : ∀ i n, wgOk x1 x2 i n → post (nI 1) (upd vw i (nI n))) : wp_M_weigh post o_length o_spent o_many o_at o_isOut o_values o_failures o_works vw x1 x2 := by
  rw [wp_M_weigh]
  have bad1 : ¬ (nI 0 ≤ x1 ∧ x1 ≤ nI 7) → post (nI 0) vw := fun h => hno (fun i n q => h (by
    obtain ⟨q1, q2, rfl, rfl⟩ := q
    exact ⟨(nI_leI (by omega) (by omega)).mpr (by omega), (nI_leI (by omega) (by omega)).mpr (by omega)⟩))
  have bad2 : ¬ (nI 0 ≤ x2 ∧ x2 ≤ nI 15) → post (nI 0) vw := fun h => hno (fun i n q => h (by
    obtain ⟨q1, q2, rfl, rfl⟩ := q
    exact ⟨(nI_leI (by omega) (by omega)).mpr (by omega), (nI_leI (by omega) (by omega)).mpr (by omega)⟩))
  refine ⟨fun h => bad1 (fun q => absurd h (Int32.not_lt.mpr q.1)), fun h => ⟨fun h2 => bad1 (fun q => absurd h2 (Int32.not_lt.mpr q.2)), fun h2 => ⟨fun h3 => bad2 (fun q => absurd h3 (Int32.not_lt.mpr q.1)), fun h3 => ⟨fun h4 => ?_, fun h4 => bad2 (fun q => h4 q.2)⟩⟩⟩⟩
  obtain ⟨i, n, hw⟩ := wg_of ⟨Int32.not_lt.mp h, Int32.not_lt.mp h2⟩ ⟨Int32.not_lt.mp h3, h4⟩
  have hy2 := hy i n hw
  obtain ⟨q1, q2, rfl, rfl⟩ := hw
  rw [nI_clamp (by omega)]
  exact ⟨pk_in i 8 q1, hy2⟩
theorem p_weight {x x1 : Int32} {vw : Nat → Int32} {post : Int32 → Prop} (hno : ¬ (nI 0 ≤ x1 ∧ x1 ≤ nI 7) → post (-1)) (hy : ∀ i, i < 8 → x1 = nI i → post (vw i)) : wp_C_weight post x vw x1 := by
  rw [wp_C_weight]
  refine p_isWithin (fun h => ⟨fun e => absurd e (by decide), fun _ => ?_⟩) (fun h => ⟨fun _ => hno h, fun e => absurd rfl e⟩)
  obtain ⟨i, _, hi, rfl⟩ := nI_rng h.1 h.2 (by omega) (by omega)
  rw [nI_clamp (by omega)]
  exact ⟨pk_in i 8 (by omega), hy i (by omega) rfl⟩
theorem p_mweight {x1 : Int32} {vw : Nat → Int32} {post : Int32 → Prop} (hno : ¬ (nI 0 ≤ x1 ∧ x1 ≤ nI 7) → post (-1)) (hy : ∀ i, i < 8 → x1 = nI i → post (vw i)) : wp_M_weight post o_length o_spent o_many o_at o_isOut o_values o_failures o_works vw x1 := by
  rw [wp_M_weight]
  refine ⟨fun h => hno (fun q => absurd h (Int32.not_lt.mpr q.1)), fun h => ⟨fun h2 => ?_, fun h2 => hno (fun q => h2 q.2)⟩⟩
  obtain ⟨i, _, hi, rfl⟩ := nI_rng (lo := 0) (Int32.not_lt.mp h) h2 (by omega) (by omega)
  rw [nI_clamp (by omega)]
  exact ⟨pk_in i 8 (by omega), hy i (by omega) rfl⟩
theorem m_dr76 {post : Int32 → Int32 → Int32 → Int32 → Int32 → Int32 → (Nat → Int32) → (Nat → Int32) → (Nat → Int32) → Prop} {sz a : Nat} {many io r : Int32} {vb vr vq : Nat → Int32} (hz : sz ≤ 256) (ha : a ≤ sz) (hp : ∀ g, (∀ j, j < sz - a → g j = vq (a + j)) → post r (nI (sz - a)) (nI a) many (nI a) io vb vr g) : ∀ (n k : Nat) (g : Nat → Int32), sz - k < n → a ≤ k → k ≤ sz → (∀ j, j < k - a → g j = vq (a + j)) → (∀ j, k ≤ j → g j = vq j) → gL2 (wpF_M_draw_76 post (nI sz) many (nI a) io vb vr r) n g (nI k) := by
  intro n
  induction n with
  | zero => intro k g h; omega
  | succ n ih =>
    intro k g hn hak hk h1 h2
    show wpF_M_draw_76 post (nI sz) many (nI a) io vb vr r (gL2 _ n) g (nI k)
    rw [wpF_M_draw_76]
    refine pk_le sz k (fun h => ?_) (fun h => ?_)
    · have e : k = sz := by omega
      subst e
      rw [pk_sub ha]
      exact hp g h1
    · rw [pk_sub hak]
      refine ⟨pk_in k 256 (by omega), pk_in (k - a) 256 (by omega), ?_⟩
      rw [nI_clamp (by omega), nI_clamp (by omega), nI_add]
      refine ih (k + 1) _ (by omega) (by omega) (by omega) (fun j hj => ?_) (fun j hj => ?_)
      · by_cases e : j = k - a
        · rw [e, pk_us, h2 k (Nat.le_refl k)]
          congr 1
          omega
        · rw [pk_un e]
          exact h1 j (by omega)
      · rw [pk_un (by omega)]
        exact h2 j (by omega)
set_option maxHeartbeats 1000000 in
theorem p_mdraw {vw vr vb vq : Nat → Int32} {w : Nat → Nat} {x1 x2 x3 : Int32} {sz : Nat} {l : List Bool} {post : Int32 → Int32 → Int32 → Int32 → Int32 → Int32 → (Nat → Int32) → (Nat → Int32) → (Nat → Int32) → Prop} (hW : Wt vw w) (hz : sz ≤ 256) (hT : Tp vq 0 sz l)
    (hno : ¬ isF x1 x2 x3 (nI (pfx w 8)) → post (-1) (nI sz) o_spent o_many o_at o_isOut vb vr vq)
    (hy : ∀ kind a b, okX x1 x2 x3 w kind a b → match samp kind a b w l with
      | none => ∀ m a i vb vr, post (-1) (nI sz) o_spent m a i vb vr vq
      | some q => ∀ m a i vb vr vq', Tp vq' 0 q.2.length q.2 → post (nI q.1) (nI q.2.length) (nI (sz - q.2.length)) m a i vb vr vq') : wp_M_draw post (nI sz) o_spent o_many o_at o_isOut o_values o_failures o_works vb vr vw vq x1 x2 x3 := by
  rw [wp_M_draw]
  have hb8 := Wt_pfx hW 8 (by omega)
  refine p_misOne hW (fun h => ⟨fun _ => ?_, fun e => absurd e (by decide)⟩) (fun h => ⟨fun e => absurd rfl e, fun _ => hno h⟩)
  obtain ⟨kind, a, b, hX⟩ := isF_ok hb8 h
  have hy := hy kind a b hX
  have loop : ∀ (n i : Nat) (vb : Nat → Int32), sz - i < n → i ≤ sz → (∀ j, j < i → vb j = vq j) → gL2 (wpF_M_draw_15 post (nI sz) o_spent o_at o_isOut o_values o_failures o_works vr vw vq x1 x2 x3) n vb (nI i) := by
    intro n
    induction n with
    | zero => intro i vb h; omega
    | succ n ih =>
      intro i vb hn hi hv
      show wpF_M_draw_15 post (nI sz) o_spent o_at o_isOut o_values o_failures o_works vr vw vq x1 x2 x3 (gL2 _ n) vb (nI i)
      rw [wpF_M_draw_15]
      refine pk_le sz i (fun h => ?_) (fun h => ?_)
      · have e : i = sz := by omega
        subst e
        refine p_mrun hW hX hz (hT.congr hv) (fun vr' => ?_)
        cases hq : samp kind a b w l with
        | none =>
          rw [hq] at hy
          exact fun x => ⟨fun e => absurd e one_ne0, fun _ => hy _ _ _ _ _⟩
        | some q =>
          rw [hq] at hy
          intro a' hT'
          have hal := hT'.1
          refine ⟨fun _ => ⟨i + 1, ?_⟩, fun e => absurd rfl e⟩
          refine m_dr76 (vq := vq) hz hT'.le (fun g hg => ?_) (i + 1) a' vq (by omega) (Nat.le_refl _) hT'.le (fun j hj => by omega) (fun j _ => rfl)
          have hq2 : i - a' = q.2.length := by omega
          have h3 := hy (nI i) (nI a') (nI 0) vb vr' g ⟨by omega, fun j b hj => ?_⟩
          · rw [hq2, show a' = i - q.2.length by omega]
            rw [show i - q.2.length = a' by omega] at h3 ⊢
            exact h3
          · have hlt := (List.getElem?_eq_some_iff.mp hj).1
            rw [Nat.zero_add, hg j (by omega), ← hv (a' + j) (by omega)]
            exact hT'.2 j b hj
      · refine ⟨pk_in i 256 (by omega), pk_in i 256 (by omega), ?_⟩
        rw [nI_clamp (by omega), nI_add]
        refine ih (i + 1) _ (by omega) (by omega) (fun j hj => ?_)
        by_cases e : j = i
        · rw [e, pk_us]
        · rw [pk_un e]; exact hv j (by omega)
  exact ⟨sz + 1, loop (sz + 1) 0 vb (by omega) (by omega) (fun j h => by omega)⟩
end MP
