def opF (i : Nat) : Nat → Nat → Nat → Nat
  | _, 0, o => o
  | j, m + 1, o => opF i (j + 1) m (o * (j - i))
def rkR (ρ : Nat → Nat) (a : Nat) : Nat → Nat → Nat
  | 0, be => be
  | m + 1, be => rkR ρ a m (be + lsum ρ (a - (m + 1)) (a - m) m * opF (a - (m + 1)) (a - m) m 1)
theorem rkR_rnk {ρ : Nat → Nat} {a : Nat} (h : 1 ≤ a) (h4 : a ≤ 4) : rkR ρ a a 0 = rnk a ρ := by
  rcases (show a = 1 ∨ a = 2 ∨ a = 3 ∨ a = 4 by omega) with rfl | rfl | rfl | rfl <;> simp [rkR, lsum, opF, rnk] <;> omega
theorem m_o104 {K : Int32 → Int32 → Prop} {vr : Nat → Int32} {ρ : Nat → Nat} {a i : Nat} {X : Int32} (ha : a ≤ 4) (hi : i < a) (hr : RowOk vr a ρ) : ∀ n j c o : Nat, a - j < n → j ≤ a → i < j → K (X + nI ((c + lsum ρ i j (a - j)) * opF i j (a - j) o)) (nI i + nI 1) → gL3 (wpF_M_order_104 K vr (nI a) X (nI i)) n (nI c) (nI o) (nI j) := by
  intro n
  induction n with
  | zero => intro j c o h; omega
  | succ n ih =>
    intro j c o hn hj hij hK
    show wpF_M_order_104 K vr (nI a) X (nI i) (gL3 _ n) (nI c) (nI o) (nI j)
    rw [wpF_M_order_104]
    refine pk_le a j (fun h => ?_) (fun h => ?_)
    · rw [show a - j = 0 by omega] at hK
      rw [pk_mul]
      exact hK
    · rw [show a - j = (a - (j + 1)) + 1 by omega] at hK
      refine ⟨pk_in j 4 (by omega), pk_in i 4 (by omega), ?_⟩
      rw [nI_clamp (by omega), nI_clamp (by omega), (hr i hi).1, (hr j h).1, pk_sub (by omega : i ≤ j), pk_mul, nI_add, nI_add, nI_add]
      have hi4 := (hr i hi).2
      have hj4 := (hr j h).2
      refine pk_le (ρ i) (ρ j) (fun h2 => ?_) (fun h2 => ?_)
      · refine ih (j + 1) _ _ (by omega) (by omega) (by omega) ?_
        rw [show lsum ρ i j (a - (j + 1) + 1) = les ρ i j + lsum ρ i (j + 1) (a - (j + 1)) from rfl, show les ρ i j = 0 from if_neg (by omega), Nat.zero_add] at hK
        exact hK
      · refine ih (j + 1) _ _ (by omega) (by omega) (by omega) ?_
        rw [show lsum ρ i j (a - (j + 1) + 1) = les ρ i j + lsum ρ i (j + 1) (a - (j + 1)) from rfl, show les ρ i j = 1 from if_pos (by omega), ← Nat.add_assoc] at hK
        exact hK
section MO
variable {f : Nat → Int32} {many : Nat} {post : Int32 → Int32 → Int32 → (Nat → Int32) → Prop} {o_length o_spent o_values o_failures o_works : Int32}
theorem m_o88 {vr : Nat → Int32} {ρ : Nat → Nat} {a : Nat} {ta io : Int32} (ha : a ≤ 4) (hr : RowOk vr a ρ) : ∀ n i be : Nat, a - i < n → i ≤ a → post (nI (rkR ρ a (a - i) be)) ta io vr → gL2 (wpF_M_order_88 post ta io vr (nI a)) n (nI be) (nI i) := by
  intro n
  induction n with
  | zero => intro i be h; omega
  | succ n ih =>
    intro i be hn hi hp
    show wpF_M_order_88 post ta io vr (nI a) (gL2 _ n) (nI be) (nI i)
    rw [wpF_M_order_88]
    refine pk_le a i (fun h => ?_) (fun h => ?_)
    · rw [show a - i = 0 by omega] at hp
      exact hp
    · rw [nI_add]
      refine ⟨a + 1, m_o104 ha h hr (a + 1) (i + 1) 0 1 (by omega) (by omega) (by omega) ?_⟩
      rw [nI_add, nI_add, Nat.zero_add]
      refine ih (i + 1) _ (by omega) (by omega) ?_
      rw [show a - i = (a - (i + 1)) + 1 by omega] at hp
      rw [rkR, show a - (a - (i + 1) + 1) = i by omega, show a - (a - (i + 1)) = i + 1 by omega] at hp
      exact hp
theorem m_rank {vr : Nat → Int32} {ρ : Nat → Nat} {a : Nat} {ta io : Int32} (h1 : 1 ≤ a) (ha : a ≤ 4) (hr : RowOk vr a ρ) (hp : post (nI (rnk a ρ)) ta io vr) : ∃ n, gL2 (wpF_M_order_88 post ta io vr (nI a)) n (nI 0) (nI 0) := by
  refine ⟨a + 1, m_o88 ha hr (a + 1) 0 0 (by omega) (by omega) ?_⟩
  rw [Nat.sub_zero, rkR_rnk h1 ha]
  exact hp
def RmR (f : Nat → Int32) (many : Nat) (o : Option (Nat × List Bool)) (post : Int32 → Int32 → Int32 → (Nat → Int32) → Prop) : Prop := ∀ vr, Rm f many o (fun r a io => post r a io vr)
def RmO (f : Nat → Int32) (many a : Nat) (o : Option ((Nat → Nat) × List Bool)) (post : Int32 → Int32 → Int32 → (Nat → Int32) → Prop) : Prop := match o with
  | none => ∀ x vr, post x (nI many) (nI 1) vr
  | some q => ∀ vr a', Tp f a' many q.2 → post (nI (rnk a q.1)) (nI a') (nI 0) vr
theorem m_o24 {a : Nat} (h1 : 1 ≤ a) (ha : a ≤ 4) (hm : many ≤ 256) : ∀ (n i at_ : Nat) (vr : Nat → Int32) (ρ : Nat → Nat) (l : List Bool), i + 1 < n → i < a → RowOk vr a ρ → Tp f at_ many l → RmO f many a (ordL i ρ l) post → gL4 (wpF_M_order_24 post o_length o_spent (nI many) o_values o_failures o_works f (nI a)) n (nI at_) (nI 0) vr (nI i) := by
  intro n
  induction n with
  | zero => intro i at_ vr ρ l h; omega
  | succ n ih =>
    intro i at_ vr ρ l hn hi hr hT hR
    show wpF_M_order_24 post o_length o_spent (nI many) o_values o_failures o_works f (nI a) (gL4 _ n) (nI at_) (nI 0) vr (nI i)
    rw [wpF_M_order_24]
    refine ⟨fun h => ?_, fun h => ?_⟩
    · have e := (nI_l0 (by omega)).mp h
      subst e
      exact m_rank h1 ha hr (hR vr at_ hT)
    · have h0 : i ≠ 0 := fun e => h ((nI_l0 (by omega)).mpr e)
      obtain ⟨k, rfl⟩ : ∃ k, i = k + 1 := ⟨i - 1, by omega⟩
      refine ⟨fun e => absurd rfl e, fun _ => ?_⟩
      rw [nI_add]
      rw [ordL] at hR
      refine p_mplain (by omega) (by omega) hm hT ?_
      cases hq : plainS (k + 2) 257 l with
      | none =>
        rw [hq] at hR
        intro x
        refine ⟨fun _ => ?_, fun e => absurd e one_ne0⟩
        obtain ⟨n, rfl⟩ : ∃ k, n = k + 1 := ⟨n - 1, by omega⟩
        show wpF_M_order_24 post o_length o_spent (nI many) o_values o_failures o_works f (nI a) (gL4 _ n) (nI many) (nI 1) vr _
        rw [wpF_M_order_24]
        have hk := m_rank (post := post) (ta := nI many) (io := nI 1) h1 ha hr (hR _ vr)
        exact ⟨fun _ => hk, fun _ => ⟨fun _ => hk, fun e => absurd e one_ne0⟩⟩
      | some q =>
        rw [hq] at hR
        obtain ⟨q1, q2⟩ := plainS_lt _ _ _ hq
        intro a' hT'
        refine ⟨fun e => absurd rfl e, fun _ => ⟨pk_in (k + 1) 4 (by omega), pk_in q.1 4 (by omega), pk_in (k + 1) 4 (by omega), pk_in q.1 4 (by omega), ?_⟩⟩
        rw [nI_clamp (by omega), nI_clamp (by omega), pk_m1]
        exact ih k a' _ _ q.2 (by omega) (by omega) (hr.swap hi (by omega)) hT' hR
theorem m_o2 {a at_ : Nat} {l : List Bool} (h1 : 1 ≤ a) (ha : a ≤ 4) (hm : many ≤ 256) (hT : Tp f at_ many l) (hR : RmO f many a (ordL (a - 1) (fun k => k) l) post) : ∀ (n i : Nat) (vr : Nat → Int32), a - i < n → i ≤ a → (∀ j, j < i → vr j = nI j) → gL2 (wpF_M_order_2 post o_length o_spent (nI many) (nI at_) (nI 0) o_values o_failures o_works f (nI a)) n vr (nI i) := by
  intro n
  induction n with
  | zero => intro i vr h; omega
  | succ n ih =>
    intro i vr hn hi hv
    show wpF_M_order_2 post o_length o_spent (nI many) (nI at_) (nI 0) o_values o_failures o_works f (nI a) (gL2 _ n) vr (nI i)
    rw [wpF_M_order_2]
    refine pk_le a i (fun h => ?_) (fun h => ?_)
    · rw [pk_sub h1]
      exact ⟨a + 1, m_o24 h1 ha hm (a + 1) (a - 1) at_ vr (fun k => k) l (by omega) (by omega) (fun j hj => ⟨hv j (by omega), by show j < 4; omega⟩) hT hR⟩
    · refine ⟨pk_in i 4 (by omega), ?_⟩
      rw [nI_clamp (by omega), nI_add]
      refine ih (i + 1) _ (by omega) (by omega) (fun j hj => ?_)
      by_cases e : j = i
      · rw [e, pk_us]
      · rw [pk_un e]; exact hv j (by omega)
theorem p_morder {a at_ : Nat} {l : List Bool} {vr : Nat → Int32} (h1 : 1 ≤ a) (ha : a ≤ 4) (hm : many ≤ 256) (hT : Tp f at_ many l) (hR : RmR f many (ordS a l) post) : wp_M_order post o_length o_spent (nI many) (nI at_) (nI 0) o_values o_failures o_works f vr (nI a) := by
  rw [wp_M_order]
  refine ⟨a + 1, m_o2 h1 ha hm hT ?_ (a + 1) 0 vr (by omega) (by omega) (fun j h => by omega)⟩
  unfold ordS at hR
  cases hq : ordL (a - 1) (fun k => k) l with
  | none => rw [hq] at hR; exact fun x vr => hR vr x
  | some q => rw [hq] at hR; exact fun vr a' hT => hR vr a' hT
end MO
section MS
variable {f : Nat → Int32} {many : Nat} {post : Int32 → Int32 → Int32 → Prop} {o_length o_spent o_values o_failures o_works : Int32}
theorem m_sh {vw : Nat → Int32} {w : Nat → Nat} {v T : Nat} {ta io : Int32} (hW : Wt vw w) (hv : v < 2 ^ 31) (hp : post (nI T) ta io) : ∀ n i : Nat, 8 - i < n → i ≤ 7 → shF w v (7 - i) i = T → gL2 (wpF_M_share_18 post ta io vw (nI v)) n (nI i) (nI (pfx w (i + 1))) := by
  intro n
  induction n with
  | zero => intro i h; omega
  | succ n ih =>
    intro i hn hi he
    have hbi := Wt_pfx hW (i + 1) (by omega)
    show wpF_M_share_18 post ta io vw (nI v) (gL2 _ n) (nI i) (nI (pfx w (i + 1)))
    rw [wpF_M_share_18]
    refine pk_le 7 i (fun h => ?_) (fun h => ?_)
    · rw [show 7 - i = 0 by omega] at he
      rw [show i = T from he]
      exact hp
    · rw [show 7 - i = (7 - (i + 1)) + 1 by omega, shF] at he
      refine pk_lt v (pfx w (i + 1)) (fun h2 => ?_) (fun h2 => ?_)
      · rw [if_pos h2] at he
        rw [he]
        exact hp
      · rw [if_neg (by omega)] at he
        rw [nI_add]
        refine ⟨pk_in (i + 1) 8 (by omega), ?_⟩
        rw [nI_clamp (by omega), (hW (i + 1) (by omega)).1, nI_add]
        exact ih (i + 1) (by omega) (by omega) he
theorem m_sh0 {vw : Nat → Int32} {ta io x : Int32} (hp : ∀ y, post y ta io) : ∀ (n i : Nat) (z : Int32), 8 - i < n → i ≤ 7 → gL2 (wpF_M_share_18 post ta io vw x) n (nI i) z := by
  intro n
  induction n with
  | zero => intro i z h; omega
  | succ n ih =>
    intro i z hn hi
    show wpF_M_share_18 post ta io vw x (gL2 _ n) (nI i) z
    rw [wpF_M_share_18]
    refine pk_le 7 i (fun h => hp _) (fun h => ⟨fun _ => hp _, fun _ => ?_⟩)
    rw [nI_add]
    exact ⟨pk_in (i + 1) 8 (by omega), ih (i + 1) _ (by omega) (by omega)⟩
theorem p_mshare {vw : Nat → Int32} {w : Nat → Nat} {at_ : Nat} {l : List Bool} (hW : Wt vw w) (h1 : 1 ≤ pfx w 8) (h2 : pfx w 8 ≤ 64) (hm : many ≤ 256) (hT : Tp f at_ many l) (hR : Rm f many (shaS w l) post) : wp_M_share post o_length o_spent (nI many) (nI at_) (nI 0) o_values o_failures o_works f vw := by
  rw [wp_M_share]
  refine p_msum hW ?_
  refine p_mplain h1 h2 hm hT ?_
  unfold shaS at hR
  cases hq : plainS (pfx w 8) 257 l with
  | none =>
    rw [hq] at hR
    exact fun x => ⟨pk_in 0 8 (by omega), 9, m_sh0 hR 9 0 _ (by omega) (by omega)⟩
  | some q =>
    rw [hq] at hR
    obtain ⟨q1, q2⟩ := plainS_lt _ _ _ hq
    intro a' hT'
    refine ⟨pk_in 0 8 (by omega), 9, ?_⟩
    have := m_sh (post := post) (ta := nI a') (io := nI 0) hW (by omega : q.1 < 2 ^ 31) (hR a' hT') 9 0 (by omega) (by omega) rfl
    rw [show (nI 0).toNatClampNeg = 0 from rfl, (hW 0 (by omega)).1]
    rw [show pfx w (0 + 1) = w 0 from Nat.zero_add _] at this
    exact this
end MS
section MU
variable {f : Nat → Int32} {many : Nat} {post : Int32 → Int32 → Int32 → (Nat → Int32) → Prop} {o_length o_spent o_values o_failures o_works : Int32} {vr : Nat → Int32}
theorem m_to0 {k : Nat} (hk : k ≤ 12) (hm : many ≤ 256) (hp : ∀ x, post x (nI many) (nI 1) vr) : ∀ (n i : Nat) (x : Int32), k - i < n → i ≤ k → gL4 (wpF_M_run_77 post o_length o_spent (nI many) o_values o_failures o_works f vr (nI k)) n (nI many) (nI 1) x (nI i) := by
  intro n
  induction n with
  | zero => intro i x h; omega
  | succ n ih =>
    intro i x hn hi
    show wpF_M_run_77 post o_length o_spent (nI many) o_values o_failures o_works f vr (nI k) (gL4 _ n) (nI many) (nI 1) x (nI i)
    rw [wpF_M_run_77]
    refine pk_le k i (fun h => hp _) (fun h => ?_)
    refine p_mbit0 hm ?_
    rw [nI_add]
    exact ih (i + 1) _ (by omega) (by omega)
theorem m_to {k : Nat} (hk : k ≤ 12) (hm : many ≤ 256) : ∀ (n i o a : Nat) (l : List Bool), k - i < n → i ≤ k → Tp f a many l → Rm f many (tosS (k - i) o l) (fun r a io => post r a io vr) → gL4 (wpF_M_run_77 post o_length o_spent (nI many) o_values o_failures o_works f vr (nI k)) n (nI a) (nI 0) (nI o) (nI i) := by
  intro n
  induction n with
  | zero => intro i o a l h; omega
  | succ n ih =>
    intro i o a l hn hi hT hR
    show wpF_M_run_77 post o_length o_spent (nI many) o_values o_failures o_works f vr (nI k) (gL4 _ n) (nI a) (nI 0) (nI o) (nI i)
    rw [wpF_M_run_77]
    refine pk_le k i (fun h => ?_) (fun h => ?_)
    · rw [show k - i = 0 by omega] at hR
      exact hR a hT
    · rw [show k - i = (k - (i + 1)) + 1 by omega] at hR
      rw [nI_add]
      refine p_mbit hm hT (fun e => ?_) (fun b l' e hT' => ?_)
      · subst e
        exact m_to0 hk hm hR n (i + 1) _ (by omega) (by omega)
      · subst e
        rw [show nI o + bI b = nI (o + b.toNat) from nI_add _ _]
        exact ih (i + 1) _ (a + 1) l' (by omega) (by omega) hT' hR
theorem m_wa {k : Nat} (hk : k ≤ 12) (hm : many ≤ 256) : ∀ (n i a : Nat) (l : List Bool), k - i + 1 < n → i ≤ k → Tp f a many l → Rm f many (waiS (k - i) i l) (fun r a io => post r a io vr) → gL3 (wpF_M_run_104 post o_length o_spent (nI many) o_values o_failures o_works f vr (nI k)) n (nI a) (nI 0) (nI i) := by
  intro n
  induction n with
  | zero => intro i a l h; omega
  | succ n ih =>
    intro i a l hn hi hT hR
    show wpF_M_run_104 post o_length o_spent (nI many) o_values o_failures o_works f vr (nI k) (gL3 _ n) (nI a) (nI 0) (nI i)
    rw [wpF_M_run_104]
    refine pk_le k i (fun h => ?_) (fun h => ?_)
    · rw [show k - i = 0 by omega] at hR
      exact hR a hT
    · rw [show k - i = (k - (i + 1)) + 1 by omega] at hR
      refine ⟨fun e => absurd rfl e, fun _ => ?_⟩
      rw [nI_add]
      refine p_mbit hm hT (fun e => ?_) (fun b l' e hT' => ?_)
      · subst e
        refine ⟨fun e => absurd rfl e, fun _ => ?_⟩
        obtain ⟨n, rfl⟩ : ∃ k, n = k + 1 := ⟨n - 1, by omega⟩
        show wpF_M_run_104 post o_length o_spent (nI many) o_values o_failures o_works f vr (nI k) (gL3 _ n) (nI many) (nI 1) _
        rw [wpF_M_run_104]
        exact ⟨fun _ => hR _, fun _ => ⟨fun _ => hR _, fun e => absurd e one_ne0⟩⟩
      · subst e
        rw [waiS] at hR
        cases b with
        | true => exact ⟨fun _ => hR (a + 1) hT', fun e => absurd e (by decide)⟩
        | false => exact ⟨fun e => absurd rfl e, fun _ => ih (i + 1) (a + 1) l' (by omega) (by omega) hT' hR⟩
set_option maxHeartbeats 1000000 in
theorem p_mrun {vw : Nat → Int32} {w : Nat → Nat} {x1 x2 x3 y z : Int32} {kind a b : Nat} {l : List Bool} (hW : Wt vw w) (hX : okX x1 x2 x3 w kind a b) (hm : many ≤ 256) (hT : Tp f 0 many l) (hR : RmR f many (samp kind a b w l) post) : wp_M_run post o_length o_spent (nI many) y z o_values o_failures o_works f vr vw x1 x2 x3 := by
  obtain ⟨hk, rfl, hO, h2, h3⟩ := hX
  rw [wp_M_run]
  rcases (show kind = 0 ∨ kind = 1 ∨ kind = 2 ∨ kind = 3 ∨ kind = 4 ∨ kind = 5 ∨ kind = 6 ∨ kind = 7 by omega) with rfl | rfl | rfl | rfl | rfl | rfl | rfl | rfl
  · rw [h2 (by decide)]; exact ⟨fun _ => p_mplain hO.1 hO.2 hm hT (hR vr), fun h => absurd rfl h⟩
  · rw [h2 (by decide)]; exact ⟨fun h => absurd h (by decide), fun _ => ⟨fun _ => p_mthrifty hO.1 hO.2 hm hT (hR vr), fun h => absurd rfl h⟩⟩
  · rw [h2 (by decide), h3 (by decide)]; exact ⟨fun h => absurd h (by decide), fun _ => ⟨fun h => absurd h (by decide), fun _ => ⟨fun _ => p_mcoin hO.1 hO.2.1 hO.2.2 hm hT (hR vr), fun h => absurd rfl h⟩⟩⟩
  · rw [h2 (by decide)]
    have h12 : a ≤ 12 := hO
    exact ⟨fun h => absurd h (by decide), fun _ => ⟨fun h => absurd h (by decide), fun _ => ⟨fun h => absurd h (by decide), fun _ => ⟨fun _ => ⟨a + 1, m_to h12 hm (a + 1) 0 0 0 l (by omega) (by omega) hT (hR vr)⟩, fun h => absurd rfl h⟩⟩⟩⟩
  · rw [h2 (by decide)]
    have h12 : a ≤ 12 := hO
    exact ⟨fun h => absurd h (by decide), fun _ => ⟨fun h => absurd h (by decide), fun _ => ⟨fun h => absurd h (by decide), fun _ => ⟨fun h => absurd h (by decide), fun _ => ⟨fun _ => ⟨a + 2, m_wa h12 hm (a + 2) 0 0 l (by omega) (by omega) hT (hR vr)⟩, fun h => absurd rfl h⟩⟩⟩⟩⟩
  · rw [h2 (by decide)]; exact ⟨fun h => absurd h (by decide), fun _ => ⟨fun h => absurd h (by decide), fun _ => ⟨fun h => absurd h (by decide), fun _ => ⟨fun h => absurd h (by decide), fun _ => ⟨fun h => absurd h (by decide), fun _ => ⟨fun _ => p_morder hO.1 hO.2 hm hT hR, fun h => absurd rfl h⟩⟩⟩⟩⟩⟩
  · rw [h2 (by decide), h3 (by decide)]; exact ⟨fun h => absurd h (by decide), fun _ => ⟨fun h => absurd h (by decide), fun _ => ⟨fun h => absurd h (by decide), fun _ => ⟨fun h => absurd h (by decide), fun _ => ⟨fun h => absurd h (by decide), fun _ => ⟨fun h => absurd h (by decide), fun _ => ⟨fun _ => p_mchoice hO.2.1 hO.2.2 hm hT (hR vr), fun h => absurd rfl h⟩⟩⟩⟩⟩⟩⟩
  · exact ⟨fun h => absurd h (by decide), fun _ => ⟨fun h => absurd h (by decide), fun _ => ⟨fun h => absurd h (by decide), fun _ => ⟨fun h => absurd h (by decide), fun _ => ⟨fun h => absurd h (by decide), fun _ => ⟨fun h => absurd h (by decide), fun _ => ⟨fun h => absurd h (by decide), fun _ => p_mshare hW hO.1 hO.2 hm hT (hR vr)⟩⟩⟩⟩⟩⟩⟩
end MU
