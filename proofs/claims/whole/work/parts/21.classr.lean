theorem s_l31 : ∀ n, n < 32 → ((nI n &&& 31).toBitVec.smod 32).toNat = n := by decide +kernel
theorem nI_shl1 {i : Nat} (h : i < 31) : nI 1 <<< (nI i &&& 31) = nI (2 ^ i) := by
  have hp : 2 ^ i < 2 ^ 32 := Nat.pow_lt_pow_right (by omega) (by omega)
  rw [pk_shlN (n := 1) (nI i &&& 31) i (s_l31 i (by omega)) (by omega), Nat.one_mul]
theorem bitsF_le (a : Nat) : bitsF a ≤ 6 := by
  unfold bitsF
  repeat' split
  all_goals omega
theorem bitsF_0 {a : Nat} (h : bitsF a = 0) : a ≤ 1 := by
  unfold bitsF at h
  repeat' split at h
  all_goals omega
theorem bitsF_pow {a : Nat} (h : a ≤ 64) : a ≤ 2 ^ bitsF a := by
  unfold bitsF
  repeat' split
  all_goals omega
theorem bitsF_eq {a i : Nat} (hi : i ≤ 6) (h1 : ∀ j, j < i → ¬ a ≤ 2 ^ j) (h2 : i < 6 → a ≤ 2 ^ i) : bitsF a = i := by
  unfold bitsF
  rcases (show i = 0 ∨ i = 1 ∨ i = 2 ∨ i = 3 ∨ i = 4 ∨ i = 5 ∨ i = 6 by omega) with rfl | rfl | rfl | rfl | rfl | rfl | rfl
  · have := h2 (by omega); repeat' split
    all_goals omega
  · have := h2 (by omega); have := h1 0 (by omega); repeat' split
    all_goals omega
  · have := h2 (by omega); have := h1 1 (by omega); repeat' split
    all_goals omega
  · have := h2 (by omega); have := h1 2 (by omega); repeat' split
    all_goals omega
  · have := h2 (by omega); have := h1 3 (by omega); repeat' split
    all_goals omega
  · have := h2 (by omega); have := h1 4 (by omega); repeat' split
    all_goals omega
  · have := h1 5 (by omega); repeat' split
    all_goals omega
theorem p_bf {a : Nat} {post : Int32 → Prop} (ha : a < 2 ^ 31) (hp : post (nI (bitsF a))) : ∀ n i : Nat, 6 - i < n → i ≤ 6 → (∀ j, j < i → ¬ a ≤ 2 ^ j) → gL1 (wpF_C_bitsFor_2 post (nI a)) n (nI i) := by
  intro n
  induction n with
  | zero => intro i h; omega
  | succ n ih =>
    intro i hn hi h1
    have hpw : 2 ^ i ≤ 2 ^ 6 := Nat.pow_le_pow_right (by omega) hi
    show wpF_C_bitsFor_2 post (nI a) (gL1 _ n) (nI i)
    rw [wpF_C_bitsFor_2, nI_shl1 (by omega)]
    refine pk_le 6 i (fun h => ?_) (fun h => ?_)
    · rw [bitsF_eq hi h1 (fun h => by omega)] at hp
      exact hp
    · refine pk_le a (2 ^ i) (fun h2 => ?_) (fun h2 => ?_)
      · rw [bitsF_eq hi h1 (fun _ => h2)] at hp
        exact hp
      · rw [nI_add]
        refine ih (i + 1) (by omega) (by omega) (fun j hj => ?_)
        by_cases e : j = i
        · subst e; omega
        · exact h1 j (by omega)
theorem p_bitsFor {a : Nat} {post : Int32 → Prop} (ha : a < 2 ^ 31) (hp : post (nI (bitsF a))) : wp_C_bitsFor post (nI a) := by
  rw [wp_C_bitsFor]
  exact ⟨7, p_bf ha hp 7 0 (by omega) (by omega) (fun j h => by omega)⟩
theorem rdN_len : ∀ (k acc : Nat) (l : List Bool) (q : Nat × List Bool), rdN k acc l = some q → q.2.length + k = l.length := by
  intro k
  induction k with
  | zero => intro acc l q h; cases h; rfl
  | succ k ih =>
    intro acc l q h
    cases l with
    | nil => cases h
    | cons b l =>
      have := ih _ _ _ h
      simp only [List.length_cons]; omega
theorem rdN_lt : ∀ (k acc c : Nat) (l : List Bool) (q : Nat × List Bool), acc < c → rdN k acc l = some q → q.1 < c * 2 ^ k := by
  intro k
  induction k with
  | zero => intro acc c l q hc h; cases h; simpa using hc
  | succ k ih =>
    intro acc c l q hc h
    cases l with
    | nil => cases h
    | cons b l =>
      have hb : b.toNat ≤ 1 := Bool.toNat_le b
      have := ih (2 * acc + b.toNat) (2 * c) l q (by omega) h
      rw [Nat.pow_succ]
      have e : 2 * c * 2 ^ k = c * (2 ^ k * 2) := by rw [Nat.mul_comm 2 c, Nat.mul_assoc, Nat.mul_comm 2]
      omega
theorem rdN_64 {k : Nat} (hk : k ≤ 6) {l : List Bool} {q : Nat × List Bool} (h : rdN k 0 l = some q) : q.1 < 64 := by
  have h1 := rdN_lt k 0 1 l q (by omega) h
  have h2 : 2 ^ k ≤ 2 ^ 6 := Nat.pow_le_pow_right (by omega) hk
  omega
section PV
variable {f : Nat → Int32} {N sz : Nat} {post : Int32 → Int32 → Prop}
theorem p_pl {A : Nat} (hA : 1 ≤ A) (hA2 : A ≤ 64) (hz : sz ≤ N) (hN : N < 2 ^ 30) : ∀ (n r a : Nat) (l : List Bool), 257 - r < n → r + l.length ≤ 256 → Tp f a sz l → Rd f sz (plainS A (257 - r) l) post → gL2 (wpF_C_plain_7 post N (nI sz) f (nI A) (nI (bitsF A))) n (nI a) (nI r) := by
  intro n
  induction n with
  | zero => intro r a l h; omega
  | succ n ih =>
    intro r a l hn hr hT hR
    show wpF_C_plain_7 post N (nI sz) f (nI A) (nI (bitsF A)) (gL2 _ n) (nI a) (nI r)
    rw [wpF_C_plain_7]
    refine pk_lt 256 r (fun h => by omega) (fun h => ?_)
    rw [show 257 - r = (256 - r) + 1 by omega] at hR
    refine p_readNumber (bitsF_le A) hz hN hT ?_
    unfold plainS at hR
    cases hq : rdN (bitsF A) 0 l with
    | none =>
      rw [hq] at hR
      exact ⟨fun _ => hR, fun h => absurd rfl h⟩
    | some q =>
      rw [hq] at hR
      have hl := rdN_len _ _ _ _ hq
      have h64 := rdN_64 (bitsF_le A) hq
      intro a' hT'
      refine ⟨fun h => absurd h (nI_ne (by omega)), fun _ => ?_⟩
      refine pk_le A q.1 (fun h2 => ?_) (fun h2 => ?_)
      · have hb : bitsF A ≠ 0 := fun e => by
          rw [e] at hq
          cases hq
          have := bitsF_0 e
          omega
        rw [nI_add]
        dsimp only at hR
        rw [if_neg (by omega)] at hR
        refine ih (r + 1) a' q.2 (by omega) (by omega) hT' ?_
        rw [show 257 - (r + 1) = 256 - r by omega]
        exact hR
      · dsimp only at hR
        rw [if_pos h2] at hR
        exact hR a' hT'
theorem p_plain {A a : Nat} {l : List Bool} (hA : 1 ≤ A) (hA2 : A ≤ 64) (hz : sz ≤ N) (hN : N < 2 ^ 30) (hL : l.length ≤ 256) (hT : Tp f a sz l) (hR : Rd f sz (plainS A 257 l) post) : wp_C_plain post N (nI sz) (nI a) f (nI A) := by
  rw [wp_C_plain]
  exact p_bitsFor (by omega) ⟨258, p_pl hA hA2 hz hN 258 0 a l (by omega) (by omega) hT hR⟩
theorem p_th {A : Nat} (hA : 1 ≤ A) (hA2 : A ≤ 64) (hz : sz ≤ N) (hN : N < 2 ^ 30) : ∀ (n st r v a : Nat) (l : List Bool), 257 - st < n → st + l.length ≤ 256 → v < r → r < 2 * A → Tp f a sz l → Rd f sz (thrS A (257 - st) r v l) post → gL4 (wpF_C_thrifty_7 post N (nI sz) f (nI A)) n (nI a) (nI r) (nI v) (nI st) := by
  intro n
  induction n with
  | zero => intro st r v a l h; omega
  | succ n ih =>
    intro st r v a l hn hs hv hr hT hR
    show wpF_C_thrifty_7 post N (nI sz) f (nI A) (gL4 _ n) (nI a) (nI r) (nI v) (nI st)
    rw [wpF_C_thrifty_7]
    refine pk_lt 256 st (fun h => by omega) (fun h => ?_)
    rw [show 257 - st = (256 - st) + 1 by omega] at hR
    unfold thrS at hR
    refine pk_lt r A (fun h2 => ?_) (fun h2 => ?_)
    · rw [if_pos h2] at hR
      refine p_readBit hT hz hN (fun e => ?_) (fun b l' e hT' => ?_)
      · subst e
        exact ⟨fun h => absurd rfl h, fun _ => hR⟩
      · subst e
        have hb : b.toNat ≤ 1 := Bool.toNat_le b
        refine ⟨fun _ => ?_, fun h => absurd h (bI_ne b)⟩
        simp only [List.length_cons] at hs
        rw [show nI 2 * nI v + bI b = nI (2 * v + b.toNat) by rw [pk_mul]; exact nI_add _ _, pk_mul, nI_add]
        refine ih (st + 1) _ _ (a + 1) l' (by omega) (by omega) (by omega) (by omega) hT' ?_
        rw [show 257 - (st + 1) = 256 - st by omega]
        exact hR
    · rw [if_neg (by omega)] at hR
      refine pk_le A v (fun h3 => ?_) (fun h3 => ?_)
      · rw [if_pos h3] at hR
        refine p_readBit hT hz hN (fun e => ?_) (fun b l' e hT' => ?_)
        · subst e
          exact ⟨fun h => absurd rfl h, fun _ => hR⟩
        · subst e
          have hb : b.toNat ≤ 1 := Bool.toNat_le b
          refine ⟨fun _ => ?_, fun h => absurd h (bI_ne b)⟩
          simp only [List.length_cons] at hs
          rw [pk_sub h3, pk_sub (by omega : A ≤ r), show nI 2 * nI (v - A) + bI b = nI (2 * (v - A) + b.toNat) by rw [pk_mul]; exact nI_add _ _, pk_mul, nI_add]
          refine ih (st + 1) _ _ (a + 1) l' (by omega) (by omega) (by omega) (by omega) hT' ?_
          rw [show 257 - (st + 1) = 256 - st by omega]
          exact hR
      · rw [if_neg (by omega)] at hR
        exact hR a hT
theorem p_thrifty {A a : Nat} {l : List Bool} (hA : 1 ≤ A) (hA2 : A ≤ 64) (hz : sz ≤ N) (hN : N < 2 ^ 30) (hL : l.length ≤ 256) (hT : Tp f a sz l) (hR : Rd f sz (thrS A 257 1 0 l) post) : wp_C_thrifty post N (nI sz) (nI a) f (nI A) := by
  rw [wp_C_thrifty]
  exact ⟨258, p_th hA hA2 hz hN 258 0 1 0 a l (by omega) (by omega) (by omega) (by omega) hT hR⟩
theorem p_co {B : Nat} (hB : B ≤ 64) (hz : sz ≤ N) (hN : N < 2 ^ 30) : ∀ (n st h a : Nat) (l : List Bool), 257 - st < n → st + l.length ≤ 256 → h ≤ B → Tp f a sz l → Rd f sz (coinS B (257 - st) h l) post → gL3 (wpF_C_coin_5 post N (nI sz) f (nI B)) n (nI a) (nI h) (nI st) := by
  intro n
  induction n with
  | zero => intro st h a l h; omega
  | succ n ih =>
    intro st h a l hn hs hh hT hR
    show wpF_C_coin_5 post N (nI sz) f (nI B) (gL3 _ n) (nI a) (nI h) (nI st)
    rw [wpF_C_coin_5]
    refine pk_lt 256 st (fun h => by omega) (fun hst => ?_)
    rw [show 257 - st = (256 - st) + 1 by omega] at hR
    unfold coinS at hR
    refine ⟨fun h0 => ?_, fun h0 => ?_⟩
    · have h0 : h ≠ 0 := fun e => h0 (by rw [e]; rfl)
      rw [if_neg h0] at hR
      refine ⟨fun h1 => ?_, fun h1 => ?_⟩
      · have h1 : h ≠ B := fun e => h1 (by rw [e])
        rw [if_neg h1] at hR
        refine p_readBit hT hz hN (fun e => ?_) (fun b l' e hT' => ?_)
        · subst e
          exact ⟨fun h => absurd rfl h, fun _ => hR⟩
        · subst e
          simp only [List.length_cons] at hs
          refine ⟨fun _ => ?_, fun h => absurd h (bI_ne b)⟩
          dsimp only at hR
          rw [pk_mul, nI_add, bI_eq0, bI_eq1]
          refine pk_lt (2 * h) B (fun h2 => ?_) (fun h2 => ?_)
          · rw [if_pos h2] at hR
            refine ⟨fun _ => ⟨fun e => ?_, fun e => ?_⟩, fun e => absurd e (by decide)⟩
            · subst e
              rw [if_neg (by decide)] at hR
              refine ih (st + 1) _ (a + 1) l' (by omega) (by omega) (by omega) hT' ?_
              rw [show 257 - (st + 1) = 256 - st by omega]
              exact hR
            · have e : b = true := by cases b <;> simp_all
              rw [if_pos e] at hR
              exact hR (a + 1) hT'
          · rw [if_neg (by omega)] at hR
            refine ⟨fun e => absurd rfl e, fun _ => ⟨fun e => ?_, fun e => ?_⟩⟩
            · rw [if_pos e] at hR
              rw [pk_sub h2]
              refine ih (st + 1) _ (a + 1) l' (by omega) (by omega) (by omega) hT' ?_
              rw [show 257 - (st + 1) = 256 - st by omega]
              exact hR
            · rw [if_neg e] at hR
              exact hR (a + 1) hT'
      · have h1 : h = B := (nI_eq (by omega) (by omega)).mp h1
        rw [if_pos h1] at hR
        exact hR a hT
    · have h0 : h = 0 := (nI_i0 (by omega)).mp h0
      rw [if_pos h0] at hR
      exact hR a hT
theorem p_coin {B h a : Nat} {l : List Bool} (hB : B ≤ 64) (hh : h ≤ B) (hz : sz ≤ N) (hN : N < 2 ^ 30) (hL : l.length ≤ 256) (hT : Tp f a sz l) (hR : Rd f sz (coinS B 257 h l) post) : wp_C_coin post N (nI sz) (nI a) f (nI h) (nI B) := by
  rw [wp_C_coin]
  exact ⟨258, p_co hB hz hN 258 0 h a l (by omega) (by omega) hh hT hR⟩
theorem p_to {k : Nat} (hk : k ≤ 12) (hz : sz ≤ N) (hN : N < 2 ^ 30) : ∀ (n i o a : Nat) (l : List Bool), k - i < n → i ≤ k → o ≤ i → Tp f a sz l → Rd f sz (tosS (k - i) o l) post → gL3 (wpF_C_tosses_4 post N (nI sz) f (nI k)) n (nI a) (nI o) (nI i) := by
  intro n
  induction n with
  | zero => intro i o a l h; omega
  | succ n ih =>
    intro i o a l hn hi ho hT hR
    show wpF_C_tosses_4 post N (nI sz) f (nI k) (gL3 _ n) (nI a) (nI o) (nI i)
    rw [wpF_C_tosses_4]
    refine pk_le k i (fun h => ?_) (fun h => ?_)
    · rw [show k - i = 0 by omega] at hR
      exact hR a hT
    · rw [show k - i = (k - (i + 1)) + 1 by omega] at hR
      refine p_readBit hT hz hN (fun e => ?_) (fun b l' e hT' => ?_)
      · subst e
        exact ⟨fun h => absurd rfl h, fun _ => hR⟩
      · subst e
        have hb : b.toNat ≤ 1 := Bool.toNat_le b
        refine ⟨fun _ => ?_, fun h => absurd h (bI_ne b)⟩
        rw [show nI o + bI b = nI (o + b.toNat) from nI_add _ _, nI_add]
        exact ih (i + 1) _ (a + 1) l' (by omega) (by omega) (by omega) hT' hR
theorem p_tosses {k a : Nat} {l : List Bool} (hk : k ≤ 12) (hz : sz ≤ N) (hN : N < 2 ^ 30) (hT : Tp f a sz l) (hR : Rd f sz (tosS k 0 l) post) : wp_C_tosses post N (nI sz) (nI a) f (nI k) := by
  rw [wp_C_tosses]
  exact ⟨k + 1, p_to hk hz hN (k + 1) 0 0 a l (by omega) (by omega) (by omega) hT hR⟩
theorem p_zb {k : Nat} (hk : k ≤ 12) (hz : sz ≤ N) (hN : N < 2 ^ 30) : ∀ (n i a : Nat) (l : List Bool), k - i < n → i ≤ k → Tp f a sz l → Rd f sz (waiS (k - i) i l) post → gL2 (wpF_C_zerosBeforeOne_2 post N (nI sz) f (nI k)) n (nI a) (nI i) := by
  intro n
  induction n with
  | zero => intro i a l h; omega
  | succ n ih =>
    intro i a l hn hi hT hR
    show wpF_C_zerosBeforeOne_2 post N (nI sz) f (nI k) (gL2 _ n) (nI a) (nI i)
    rw [wpF_C_zerosBeforeOne_2]
    refine pk_le k i (fun h => ?_) (fun h => ?_)
    · rw [show k - i = 0 by omega] at hR
      rw [show k = i by omega]
      exact hR a hT
    · rw [show k - i = (k - (i + 1)) + 1 by omega] at hR
      refine p_readBit hT hz hN (fun e => ?_) (fun b l' e hT' => ?_)
      · subst e
        exact ⟨fun h => absurd rfl h, fun _ => hR⟩
      · subst e
        refine ⟨fun _ => ?_, fun h => absurd h (bI_ne b)⟩
        unfold waiS at hR
        try dsimp only at hR
        rw [bI_eq1]
        refine ⟨fun e => ?_, fun e => ?_⟩
        · rw [if_neg e] at hR
          rw [nI_add]
          exact ih (i + 1) (a + 1) l' (by omega) (by omega) hT' hR
        · rw [if_pos e] at hR
          exact hR (a + 1) hT'
theorem p_wait {k a : Nat} {l : List Bool} (hk : k ≤ 12) (hz : sz ≤ N) (hN : N < 2 ^ 30) (hT : Tp f a sz l) (hR : Rd f sz (waiS k 0 l) post) : wp_C_zerosBeforeOne post N (nI sz) (nI a) f (nI k) := by
  rw [wp_C_zerosBeforeOne]
  exact ⟨k + 1, p_zb hk hz hN (k + 1) 0 a l (by omega) (by omega) hT hR⟩
end PV
