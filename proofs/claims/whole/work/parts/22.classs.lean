theorem plainS_lt {A : Nat} : ∀ (n : Nat) (l : List Bool) (q : Nat × List Bool), plainS A n l = some q → q.1 < A ∧ q.2.length ≤ l.length := by
  intro n
  induction n with
  | zero => intro l q h; cases h
  | succ n ih =>
    intro l q h
    unfold plainS at h
    cases hq : rdN (bitsF A) 0 l with
    | none => rw [hq] at h; cases h
    | some p =>
      rw [hq] at h
      have hl := rdN_len _ _ _ _ hq
      dsimp only at h
      by_cases c : p.1 < A
      · rw [if_pos c] at h
        cases h
        exact ⟨c, by omega⟩
      · rw [if_neg c] at h
        have := ih _ _ h
        exact ⟨this.1, by omega⟩
theorem coinS_01 {B : Nat} : ∀ (n h : Nat) (l : List Bool) (q : Nat × List Bool), coinS B n h l = some q → q.1 ≤ 1 ∧ q.2.length ≤ l.length ∧ (h = 0 → q.1 = 0) ∧ (h ≠ 0 → h = B → q.1 = 1) := by
  intro n
  induction n with
  | zero => intro h l q e; cases e
  | succ n ih =>
    intro h l q e
    unfold coinS at e
    by_cases h0 : h = 0
    · rw [if_pos h0] at e; cases e
      exact ⟨Nat.zero_le _, Nat.le_refl _, fun _ => rfl, fun z => absurd h0 z⟩
    · rw [if_neg h0] at e
      by_cases h1 : h = B
      · rw [if_pos h1] at e; cases e
        exact ⟨Nat.le_refl _, Nat.le_refl _, fun z => absurd z h0, fun _ _ => rfl⟩
      · rw [if_neg h1] at e
        cases l with
        | nil => cases e
        | cons b l' =>
          dsimp only at e
          simp only [List.length_cons]
          by_cases c : 2 * h < B
          · rw [if_pos c] at e
            cases b with
            | true => cases e; exact ⟨Nat.zero_le _, by dsimp only; omega, fun z => absurd z h0, fun _ z => absurd z h1⟩
            | false =>
              have := ih _ _ _ e
              exact ⟨this.1, by omega, fun z => absurd z h0, fun _ z => absurd z h1⟩
          · rw [if_neg c] at e
            cases b with
            | true =>
              have := ih _ _ _ e
              exact ⟨this.1, by omega, fun z => absurd z h0, fun _ z => absurd z h1⟩
            | false => cases e; exact ⟨Nat.le_refl _, by dsimp only; omega, fun z => absurd z h0, fun _ z => absurd z h1⟩
theorem c_or : ∀ i, i < 6 → ∀ s, s < 2 ^ i → ∀ q, q < 2 → nI s ||| (nI q <<< (nI i &&& 31)) = nI (s + q * 2 ^ i) := by decide +kernel
section PW
variable {f : Nat → Int32} {N sz : Nat} {post : Int32 → Int32 → Prop}
theorem p_ch {a b : Nat} (ha : a ≤ 6) (hb : b ≤ a) (hz : sz ≤ N) (hN : N < 2 ^ 30) : ∀ (n i t s at_ : Nat) (l : List Bool), a - i < n → i ≤ a → l.length ≤ 256 → t ≤ b → b - t ≤ a - i → s < 2 ^ i → Tp f at_ sz l → Rd f sz (choL a b (a - i) t s l) post → gL4 (wpF_C_choice_8 post N (nI sz) f (nI a) (nI b)) n (nI at_) (nI t) (nI s) (nI i) := by
  intro n
  induction n with
  | zero => intro i t s at_ l h; omega
  | succ n ih =>
    intro i t s at_ l hn hi hL ht hbt hs hT hR
    show wpF_C_choice_8 post N (nI sz) f (nI a) (nI b) (gL4 _ n) (nI at_) (nI t) (nI s) (nI i)
    rw [wpF_C_choice_8]
    refine pk_le a i (fun h => ?_) (fun h => ?_)
    · rw [show a - i = 0 by omega] at hR
      exact hR at_ hT
    · rw [show a - i = (a - (i + 1)) + 1 by omega] at hR
      rw [pk_sub ht, pk_sub hi]
      refine p_coin (by omega) hbt hz hN hL hT ?_
      unfold choL at hR
      rw [show a - (i + 1) + 1 = a - i by omega] at hR
      cases hq : coinS (a - i) 257 (b - t) l with
      | none =>
        rw [hq] at hR
        exact ⟨fun h => absurd rfl h, fun _ => hR⟩
      | some q =>
        rw [hq] at hR
        obtain ⟨q1, q2, q3, q4⟩ := coinS_01 _ _ _ _ hq
        intro a' hT'
        refine ⟨fun _ => ?_, fun h => absurd h (nI_ne (by omega))⟩
        rw [nI_add, nI_add, c_or i (by omega) s hs q.1 (by omega)]
        dsimp only at hR
        rw [show a - (a - i) = i by omega] at hR
        refine ih (i + 1) _ _ a' q.2 (by omega) (by omega) (by omega) ?_ ?_ ?_ hT' hR
        · by_cases e : b - t = 0
          · have := q3 e; omega
          · omega
        · by_cases e : b - t = a - i
          · have := q4 (by omega) e; omega
          · omega
        · rw [Nat.pow_succ]
          have : q.1 * 2 ^ i ≤ 1 * 2 ^ i := Nat.mul_le_mul_right _ q1
          omega
theorem p_choice {a b at_ : Nat} {l : List Bool} (ha : a ≤ 6) (hb : b ≤ a) (hz : sz ≤ N) (hN : N < 2 ^ 30) (hL : l.length ≤ 256) (hT : Tp f at_ sz l) (hR : Rd f sz (choL a b a 0 0 l) post) : wp_C_choice post N (nI sz) (nI at_) f (nI a) (nI b) := by
  rw [wp_C_choice]
  exact ⟨a + 1, p_ch ha hb hz hN (a + 1) 0 0 0 at_ l (by omega) (by omega) hL (by omega) (by omega) (by decide) hT hR⟩
end PW
def Wt (vw : Nat → Int32) (w : Nat → Nat) : Prop := ∀ j, j < 8 → vw j = nI (w j) ∧ w j ≤ 15
theorem Wt_pfx {vw : Nat → Int32} {w : Nat → Nat} (h : Wt vw w) : ∀ i, i ≤ 8 → pfx w i ≤ 15 * i := by
  intro i
  induction i with
  | zero => intro _; exact Nat.le_refl 0
  | succ i ih =>
    intro hi
    have h1 := ih (by omega)
    have h2 := (h i (by omega)).2
    show pfx w i + w i ≤ _
    omega
theorem p_ws {vw : Nat → Int32} {w : Nat → Nat} {post : Int32 → Prop} (hW : Wt vw w) (hp : post (nI (pfx w 8))) : ∀ n i : Nat, 8 - i < n → i ≤ 8 → gL2 (wpF_C_weightSum_4 post vw) n (nI (pfx w i)) (nI i) := by
  intro n
  induction n with
  | zero => intro i h; omega
  | succ n ih =>
    intro i hn hi
    show wpF_C_weightSum_4 post vw (gL2 _ n) (nI (pfx w i)) (nI i)
    rw [wpF_C_weightSum_4]
    refine pk_le 8 i (fun h => ?_) (fun h => ?_)
    · rw [show i = 8 by omega]
      exact hp
    · refine ⟨pk_in i 8 h, ?_⟩
      rw [nI_clamp (by omega), (hW i h).1, nI_add, nI_add]
      exact ih (i + 1) (by omega) (by omega)
theorem p_weightSum {vw : Nat → Int32} {w : Nat → Nat} {post : Int32 → Prop} {x : Int32} (hW : Wt vw w) (hp : post (nI (pfx w 8))) : wp_C_weightSum post x vw := by
  rw [wp_C_weightSum]
  exact ⟨9, p_ws hW hp 9 0 (by omega) (by omega)⟩
def RowOk (vr : Nat → Int32) (a : Nat) (ρ : Nat → Nat) : Prop := ∀ j, j < a → vr j = nI (ρ j) ∧ ρ j < 4
theorem RowOk.swap {vr : Nat → Int32} {a : Nat} {ρ : Nat → Nat} (h : RowOk vr a ρ) {i j : Nat} (hi : i < a) (hj : j < a) : RowOk (upd (upd vr i (vr j)) j (vr i)) a (swp ρ i j) := by
  intro k hk
  unfold swp
  by_cases e : k = j
  · rw [if_pos e, e, pk_us]
    exact h i hi
  · rw [if_neg e, pk_un e]
    by_cases e2 : k = i
    · rw [if_pos e2, e2, pk_us]
      exact h j hj
    · rw [if_neg e2, pk_un e2]
      exact h k hk
def lsum (ρ : Nat → Nat) (i : Nat) : Nat → Nat → Nat
  | _, 0 => 0
  | j, m + 1 => les ρ i j + lsum ρ i (j + 1) m
def rkC (ρ : Nat → Nat) (a : Nat) : Nat → Nat → Nat
  | 0, be => be
  | m + 1, be => rkC ρ a m (be * (m + 1) + lsum ρ (a - (m + 1)) (a - m) m)
theorem rkC_rnk {ρ : Nat → Nat} {a : Nat} (h : 1 ≤ a) (h4 : a ≤ 4) : rkC ρ a a 0 = rnk a ρ := by
  rcases (show a = 1 ∨ a = 2 ∨ a = 3 ∨ a = 4 by omega) with rfl | rfl | rfl | rfl <;> simp [rkC, lsum, rnk] <;> omega
theorem les_le (ρ : Nat → Nat) (i j : Nat) : les ρ i j ≤ 1 := by unfold les; split <;> omega
theorem lsum_le (ρ : Nat → Nat) (i : Nat) : ∀ m j, lsum ρ i j m ≤ m := by
  intro m
  induction m with
  | zero => intro j; exact Nat.le_refl 0
  | succ m ih =>
    intro j
    have h1 := ih (j + 1)
    have h2 := les_le ρ i j
    show les ρ i j + lsum ρ i (j + 1) m ≤ _
    omega
theorem p_ob1 {K : Int32 → Int32 → Prop} {vr : Nat → Int32} {ρ : Nat → Nat} {a i : Nat} {X : Int32} (ha : a ≤ 4) (hi : i < a) (hr : RowOk vr a ρ) : ∀ n j c : Nat, a - j < n → j ≤ a → K (X * (nI a - nI i) + nI (c + lsum ρ i j (a - j))) (nI i + nI 1) → gL2 (wpF_C_ordersBeforeRow_17 K vr (nI a) X (nI i)) n (nI c) (nI j) := by
  intro n
  induction n with
  | zero => intro j c h; omega
  | succ n ih =>
    intro j c hn hj hK
    show wpF_C_ordersBeforeRow_17 K vr (nI a) X (nI i) (gL2 _ n) (nI c) (nI j)
    rw [wpF_C_ordersBeforeRow_17]
    refine pk_le a j (fun h => ?_) (fun h => ?_)
    · rw [show a - j = 0 by omega] at hK
      exact hK
    · rw [show a - j = (a - (j + 1)) + 1 by omega] at hK
      refine ⟨pk_in j 4 (by omega), pk_in i 4 (by omega), ?_⟩
      rw [nI_clamp (by omega), nI_clamp (by omega), (hr i hi).1, (hr j h).1, nI_add, nI_add]
      have hi4 := (hr i hi).2
      have hj4 := (hr j h).2
      refine pk_le (ρ i) (ρ j) (fun h2 => ?_) (fun h2 => ?_)
      · refine ih (j + 1) c (by omega) (by omega) ?_
        rw [show lsum ρ i j (a - (j + 1) + 1) = les ρ i j + lsum ρ i (j + 1) (a - (j + 1)) from rfl, show les ρ i j = 0 from if_neg (by omega), Nat.zero_add] at hK
        exact hK
      · refine ih (j + 1) (c + 1) (by omega) (by omega) ?_
        rw [show lsum ρ i j (a - (j + 1) + 1) = les ρ i j + lsum ρ i (j + 1) (a - (j + 1)) from rfl, show les ρ i j = 1 from if_pos (by omega), ← Nat.add_assoc] at hK
        exact hK
theorem p_ob2 {post : Int32 → Prop} {vr : Nat → Int32} {ρ : Nat → Nat} {a : Nat} (ha : a ≤ 4) (hr : RowOk vr a ρ) : ∀ n i be : Nat, a - i < n → i ≤ a → post (nI (rkC ρ a (a - i) be)) → gL2 (wpF_C_ordersBeforeRow_4 post vr (nI a)) n (nI be) (nI i) := by
  intro n
  induction n with
  | zero => intro i be h; omega
  | succ n ih =>
    intro i be hn hi hp
    show wpF_C_ordersBeforeRow_4 post vr (nI a) (gL2 _ n) (nI be) (nI i)
    rw [wpF_C_ordersBeforeRow_4]
    refine pk_le a i (fun h => ?_) (fun h => ?_)
    · rw [show a - i = 0 by omega] at hp
      exact hp
    · rw [nI_add]
      refine ⟨a + 1, p_ob1 ha h hr (a + 1) (i + 1) 0 (by omega) (by omega) ?_⟩
      rw [pk_sub hi, pk_mul, nI_add, nI_add, Nat.zero_add]
      refine ih (i + 1) _ (by omega) (by omega) ?_
      rw [show a - i = (a - (i + 1)) + 1 by omega] at hp ⊢
      unfold rkC at hp
      rw [show a - (a - (i + 1) + 1) = i by omega, show a - (a - (i + 1)) = i + 1 by omega] at hp
      exact hp
theorem p_ordersBeforeRow {post : Int32 → Prop} {vr : Nat → Int32} {ρ : Nat → Nat} {a : Nat} {x : Int32} (h1 : 1 ≤ a) (ha : a ≤ 4) (hr : RowOk vr a ρ) (hp : post (nI (rnk a ρ))) : wp_C_ordersBeforeRow post x vr (nI a) := by
  rw [wp_C_ordersBeforeRow]
  refine ⟨a + 1, p_ob2 ha hr (a + 1) 0 0 (by omega) (by omega) ?_⟩
  rw [Nat.sub_zero, rkC_rnk h1 ha]
  exact hp
def RdR (f : Nat → Int32) (sz : Nat) (o : Option (Nat × List Bool)) (post : Int32 → (Nat → Int32) → Int32 → Prop) : Prop := ∀ vr, Rd f sz o (fun r a => post r vr a)
def RdO (f : Nat → Int32) (sz a : Nat) (o : Option ((Nat → Nat) × List Bool)) (post : Int32 → (Nat → Int32) → Int32 → Prop) : Prop := match o with
  | none => ∀ vr, post (-1) vr (nI sz)
  | some q => ∀ vr a', Tp f a' sz q.2 → post (nI (rnk a q.1)) vr (nI a')
section PX
variable {f : Nat → Int32} {N sz : Nat} {post : Int32 → (Nat → Int32) → Int32 → Prop} {x : Int32}
theorem p_or2 {a : Nat} (h1 : 1 ≤ a) (ha : a ≤ 4) (hz : sz ≤ N) (hN : N < 2 ^ 30) : ∀ (n i at_ : Nat) (vr : Nat → Int32) (ρ : Nat → Nat) (l : List Bool), i < n → i < a → l.length ≤ 256 → RowOk vr a ρ → Tp f at_ sz l → RdO f sz a (ordL i ρ l) post → gL3 (wpF_C_order_24 post N x (nI sz) f (nI a)) n vr (nI at_) (nI i) := by
  intro n
  induction n with
  | zero => intro i at_ vr ρ l h; omega
  | succ n ih =>
    intro i at_ vr ρ l hn hi hL hr hT hR
    show wpF_C_order_24 post N x (nI sz) f (nI a) (gL3 _ n) vr (nI at_) (nI i)
    rw [wpF_C_order_24]
    refine pk_lt i 1 (fun h => ?_) (fun h => ?_)
    · rw [show i = 0 by omega] at hR
      exact p_ordersBeforeRow h1 ha hr (hR vr at_ hT)
    · obtain ⟨k, rfl⟩ : ∃ k, i = k + 1 := ⟨i - 1, by omega⟩
      rw [nI_add]
      unfold ordL at hR
      refine p_plain (by omega) (by omega) hz hN hL hT ?_
      cases hq : plainS (k + 2) 257 l with
      | none =>
        rw [hq] at hR
        exact ⟨fun h => absurd rfl h, fun _ => hR vr⟩
      | some q =>
        rw [hq] at hR
        obtain ⟨q1, q2⟩ := plainS_lt _ _ _ hq
        intro a' hT'
        refine ⟨fun _ => ⟨pk_in (k + 1) 4 (by omega), pk_in q.1 4 (by omega), pk_in (k + 1) 4 (by omega), pk_in q.1 4 (by omega), ?_⟩, fun h => absurd h (nI_ne (by omega))⟩
        rw [nI_clamp (by omega), nI_clamp (by omega), pk_m1]
        exact ih k a' _ _ q.2 (by omega) (by omega) (by omega) (hr.swap hi (by omega)) hT' hR
theorem p_or1 {a at_ : Nat} {l : List Bool} (h1 : 1 ≤ a) (ha : a ≤ 4) (hz : sz ≤ N) (hN : N < 2 ^ 30) (hL : l.length ≤ 256) (hT : Tp f at_ sz l) (hR : RdO f sz a (ordL (a - 1) (fun k => k) l) post) : ∀ (n i : Nat) (vr : Nat → Int32), a - i < n → i ≤ a → (∀ j, j < i → vr j = nI j) → gL2 (wpF_C_order_2 post N x (nI sz) (nI at_) f (nI a)) n vr (nI i) := by
  intro n
  induction n with
  | zero => intro i vr h; omega
  | succ n ih =>
    intro i vr hn hi hv
    show wpF_C_order_2 post N x (nI sz) (nI at_) f (nI a) (gL2 _ n) vr (nI i)
    rw [wpF_C_order_2]
    refine pk_le a i (fun h => ?_) (fun h => ?_)
    · rw [pk_sub h1]
      exact ⟨a, p_or2 h1 ha hz hN a (a - 1) at_ vr (fun k => k) l (by omega) (by omega) hL (fun j hj => ⟨hv j (by omega), by show j < 4; omega⟩) hT hR⟩
    · refine ⟨pk_in i 4 (by omega), ?_⟩
      rw [nI_clamp (by omega), nI_add]
      refine ih (i + 1) _ (by omega) (by omega) (fun j hj => ?_)
      by_cases e : j = i
      · rw [e, pk_us]
      · rw [pk_un e]; exact hv j (by omega)
theorem RdO_of {a : Nat} {l : List Bool} (h : RdR f sz (ordS a l) post) : RdO f sz a (ordL (a - 1) (fun k => k) l) post := by
  unfold ordS at h
  cases hq : ordL (a - 1) (fun k => k) l with
  | none => rw [hq] at h; exact fun vr => h vr
  | some q => rw [hq] at h; exact fun vr a' hT => h vr a' hT
theorem p_order {a at_ : Nat} {l : List Bool} {vr : Nat → Int32} (h1 : 1 ≤ a) (ha : a ≤ 4) (hz : sz ≤ N) (hN : N < 2 ^ 30) (hL : l.length ≤ 256) (hT : Tp f at_ sz l) (hR : RdR f sz (ordS a l) post) : wp_C_order post N x vr (nI sz) (nI at_) f (nI a) := by
  rw [wp_C_order]
  exact ⟨a + 1, p_or1 h1 ha hz hN hL hT (RdO_of hR) (a + 1) 0 vr (by omega) (by omega) (fun j h => by omega)⟩
end PX
section PY
variable {f : Nat → Int32} {N sz : Nat} {post : Int32 → Int32 → Prop} {x : Int32}
theorem p_sh {vw : Nat → Int32} {w : Nat → Nat} {v T : Nat} {ta : Int32} (hW : Wt vw w) (hv : v < pfx w 8) (hp : post (nI T) ta) : ∀ n i : Nat, 8 - i < n → i ≤ 7 → shF w v (7 - i) i = T → gL2 (wpF_C_share_21 post vw ta (nI v)) n (nI (pfx w i)) (nI i) := by
  have hb := Wt_pfx hW 8 (by omega)
  intro n
  induction n with
  | zero => intro i h; omega
  | succ n ih =>
    intro i hn hi he
    have hbi := Wt_pfx hW (i + 1) (by omega)
    show wpF_C_share_21 post vw ta (nI v) (gL2 _ n) (nI (pfx w i)) (nI i)
    rw [wpF_C_share_21]
    refine pk_le 8 i (fun h => by omega) (fun h => ?_)
    refine ⟨pk_in i 8 h, ?_⟩
    rw [nI_clamp (by omega), (hW i h).1, nI_add, nI_add, show pfx w i + w i = pfx w (i + 1) from rfl]
    refine pk_le (pfx w (i + 1)) v (fun h2 => ?_) (fun h2 => ?_)
    · by_cases e7 : i = 7
      · subst e7
        have e8 : pfx w (7 + 1) = pfx w 8 := rfl
        omega
      · refine ih (i + 1) (by omega) (by omega) ?_
        rw [show 7 - i = (7 - (i + 1)) + 1 by omega] at he
        unfold shF at he
        rw [if_neg (by omega)] at he
        exact he
    · by_cases e7 : i = 7
      · subst e7
        rw [← he] at hp
        exact hp
      · rw [show 7 - i = (7 - (i + 1)) + 1 by omega] at he
        unfold shF at he
        rw [if_pos h2] at he
        rw [← he] at hp
        exact hp
theorem p_share {vw : Nat → Int32} {w : Nat → Nat} {at_ : Nat} {l : List Bool} (hW : Wt vw w) (h1 : 1 ≤ pfx w 8) (h2 : pfx w 8 ≤ 64) (hz : sz ≤ N) (hN : N < 2 ^ 30) (hL : l.length ≤ 256) (hT : Tp f at_ sz l) (hR : Rd f sz (shaS w l) post) : wp_C_share post N x vw (nI sz) (nI at_) f := by
  rw [wp_C_share]
  refine p_weightSum hW ?_
  refine p_plain h1 h2 hz hN hL hT ?_
  unfold shaS at hR
  cases hq : plainS (pfx w 8) 257 l with
  | none =>
    rw [hq] at hR
    exact ⟨fun h => absurd rfl h, fun _ => hR⟩
  | some q =>
    rw [hq] at hR
    obtain ⟨q1, q2⟩ := plainS_lt _ _ _ hq
    intro a' hT'
    refine ⟨fun _ => ?_, fun h => absurd h (nI_ne (by omega))⟩
    exact ⟨9, p_sh hW q1 (hR a' hT') 9 0 (by omega) (by omega) rfl⟩
end PY
