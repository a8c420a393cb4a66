def Rm (f : Nat → Int32) (many : Nat) (o : Option (Nat × List Bool)) (post : Int32 → Int32 → Int32 → Prop) : Prop := match o with
  | none => ∀ x, post x (nI many) (nI 1)
  | some q => ∀ a, Tp f a many q.2 → post (nI q.1) (nI a) (nI 0)
theorem thrS_s {A n r v : Nat} {l : List Bool} : thrS A (n + 1) r v l = if r < A then (match l with
      | [] => none
      | b :: l' => thrS A n (2 * r) (2 * v + b.toNat) l')
    else if A ≤ v then (match l with
      | [] => none
      | b :: l' => thrS A n (2 * (r - A)) (2 * (v - A) + b.toNat) l')
    else some (v, l) := by
  cases l <;> rfl
theorem coinS_s {B n h : Nat} {l : List Bool} : coinS B (n + 1) h l = if h = 0 then some (0, l) else if h = B then some (1, l) else (match l with
      | [] => none
      | b :: l' => if 2 * h < B then (if b then some (0, l') else coinS B n (2 * h) l') else (if b then coinS B n (2 * h - B) l' else some (1, l'))) := by
  cases l <;> rfl
theorem bitsF_min {A i : Nat} (h : i < bitsF A) : ¬ A ≤ 2 ^ i := by
  intro h2
  unfold bitsF at h
  have hp : ∀ k, i ≤ k → 2 ^ i ≤ 2 ^ k := fun k hk => Nat.pow_le_pow_right (by omega) hk
  repeat' split at h
  · omega
  · have := hp 0 (by omega); omega
  · have := hp 1 (by omega); omega
  · have := hp 2 (by omega); omega
  · have := hp 3 (by omega); omega
  · have := hp 4 (by omega); omega
  · have := hp 5 (by omega); omega
section MR
variable {f : Nat → Int32} {many : Nat} {post : Int32 → Int32 → Int32 → Prop} {o_length o_spent o_values o_failures o_works : Int32}
theorem p_mbit {a : Nat} {l : List Bool} {io : Int32} (hm : many ≤ 256) (hT : Tp f a many l) (h0 : l = [] → post (nI 0) (nI many) (nI 1)) (h1 : ∀ b l', l = b :: l' → Tp f (a + 1) many l' → post (bI b) (nI (a + 1)) io) : wp_M_bit post o_length o_spent (nI many) (nI a) io o_values o_failures o_works f := by
  have hle := hT.le
  rw [wp_M_bit]
  refine ⟨fun h => ?_, fun h => ?_⟩
  · cases l with
    | nil => exact absurd (by rw [hT.nil]) h
    | cons b l' =>
      obtain ⟨e1, e2, e3⟩ := hT.cons
      rw [nI_add, pk_sub (by omega : 1 ≤ a + 1), Nat.add_sub_cancel]
      refine ⟨pk_in a 256 (by omega), ?_⟩
      rw [nI_clamp (by omega), e1]
      exact h1 b l' rfl e3
  · have e : a = many := (nI_eq (by omega) (by omega)).mp h
    cases l with
    | nil => rw [e]; exact h0 rfl
    | cons b l' => exact absurd hT.cons.2.1 (by omega)
theorem p_mbit0 {io : Int32} (hm : many ≤ 256) (h0 : post (nI 0) (nI many) (nI 1)) : wp_M_bit post o_length o_spent (nI many) (nI many) io o_values o_failures o_works f := by
  rw [wp_M_bit]
  exact ⟨fun h => absurd rfl h, fun _ => h0⟩
theorem one_ne0 : ¬ nI 1 = 0 := by decide
def RmK (f : Nat → Int32) (many : Nat) (o : Option (Nat × List Bool)) (K : Int32 → Int32 → Int32 → Prop) : Prop := match o with
  | none => ∀ x, K (nI many) (nI 1) x
  | some q => ∀ a, Tp f a many q.2 → K (nI a) (nI 0) (nI q.1)
theorem m_pl18 {A : Nat} {K : Int32 → Int32 → Int32 → Prop} (hA2 : A ≤ 64) (hm : many ≤ 256) : ∀ (n i v a : Nat) (l : List Bool), bitsF A - i + 1 < n → i ≤ bitsF A → Tp f a many l → RmK f many (rdN (bitsF A - i) v l) K → gL4 (wpF_M_plain_18 K o_length o_spent (nI many) o_values o_failures o_works f (nI A)) n (nI a) (nI 0) (nI v) (nI (2 ^ i)) := by
  have hk6 := bitsF_le A
  intro n
  induction n with
  | zero => intro i v a l h; omega
  | succ n ih =>
    intro i v a l hn hi hT hR
    have hpw : 2 ^ i ≤ 2 ^ 6 := Nat.pow_le_pow_right (by omega) (by omega)
    show wpF_M_plain_18 K o_length o_spent (nI many) o_values o_failures o_works f (nI A) (gL4 _ n) (nI a) (nI 0) (nI v) (nI (2 ^ i))
    rw [wpF_M_plain_18]
    refine pk_le A (2 ^ i) (fun h => ?_) (fun h => ?_)
    · have e : bitsF A - i = 0 := by
        rcases Nat.lt_or_ge i (bitsF A) with c | c
        · exact absurd h (bitsF_min c)
        · omega
      rw [e] at hR
      exact hR a hT
    · have hlt : i < bitsF A := by
        rcases Nat.lt_or_ge i (bitsF A) with c | c
        · exact c
        · have h1 := bitsF_pow hA2
          have h2 : 2 ^ bitsF A ≤ 2 ^ i := Nat.pow_le_pow_right (by omega) c
          omega
      rw [show bitsF A - i = (bitsF A - (i + 1)) + 1 by omega] at hR
      refine ⟨fun h => absurd rfl h, fun _ => ?_⟩
      rw [show nI 2 * nI (2 ^ i) = nI (2 ^ (i + 1)) by rw [pk_mul, Nat.pow_succ, Nat.mul_comm]]
      refine p_mbit hm hT (fun e => ?_) (fun b l' e hT' => ?_)
      · subst e
        obtain ⟨n, rfl⟩ : ∃ k, n = k + 1 := ⟨n - 1, by omega⟩
        show wpF_M_plain_18 K o_length o_spent (nI many) o_values o_failures o_works f (nI A) (gL4 _ n) (nI many) (nI 1) _ _
        rw [wpF_M_plain_18]
        exact ⟨fun _ => hR _, fun _ => ⟨fun _ => hR _, fun h => absurd h one_ne0⟩⟩
      · subst e
        rw [show nI 2 * nI v + bI b = nI (2 * v + b.toNat) by rw [pk_mul]; exact nI_add _ _]
        exact ih (i + 1) _ (a + 1) l' (by omega) (by omega) hT' hR
theorem m_pl2 {A : Nat} (hA : 1 ≤ A) (hA2 : A ≤ 64) (hm : many ≤ 256) : ∀ (n r v a : Nat) (l : List Bool), (v < A → 0 < n) → (A ≤ v → l.length + 1 < n ∧ l.length < r) → v < 2 ^ 31 → Tp f a many l → Rm f many (if v < A then some (v, l) else plainS A r l) post → gL3 (wpF_M_plain_2 post o_length o_spent (nI many) o_values o_failures o_works f (nI A)) n (nI a) (nI 0) (nI v) := by
  intro n
  induction n with
  | zero => intro r v a l h1 h2; exfalso; rcases Nat.lt_or_ge v A with c | c
            · exact absurd (h1 c) (by omega)
            · exact absurd (h2 c).1 (by omega)
  | succ n ih =>
    intro r v a l h1 h2 hv hT hR
    show wpF_M_plain_2 post o_length o_spent (nI many) o_values o_failures o_works f (nI A) (gL3 _ n) (nI a) (nI 0) (nI v)
    rw [wpF_M_plain_2]
    refine pk_lt v A (fun h => ?_) (fun h => ?_)
    · rw [if_pos h] at hR
      exact hR a hT
    · rw [if_neg (by omega)] at hR
      obtain ⟨g1, g2⟩ := h2 h
      refine ⟨fun e => absurd rfl e, fun _ => ⟨bitsF A + 2, ?_⟩⟩
      refine m_pl18 (K := gL3 (wpF_M_plain_2 post o_length o_spent (nI many) o_values o_failures o_works f (nI A)) n) hA2 hm (bitsF A + 2) 0 0 a l (by omega) (by omega) hT ?_
      obtain ⟨r, rfl⟩ : ∃ k, r = k + 1 := ⟨r - 1, by omega⟩
      rw [Nat.sub_zero]
      unfold plainS at hR
      cases hq : rdN (bitsF A) 0 l with
      | none =>
        rw [hq] at hR
        intro x
        obtain ⟨n, rfl⟩ : ∃ k, n = k + 1 := ⟨n - 1, by omega⟩
        show wpF_M_plain_2 post o_length o_spent (nI many) o_values o_failures o_works f (nI A) (gL3 _ n) (nI many) (nI 1) x
        rw [wpF_M_plain_2]
        exact ⟨fun _ => hR _, fun _ => ⟨fun _ => hR _, fun e => absurd e one_ne0⟩⟩
      | some q =>
        rw [hq] at hR
        have hl := rdN_len _ _ _ _ hq
        have h64 := rdN_64 (bitsF_le A) hq
        intro a' hT'
        refine ih r q.1 a' q.2 (fun _ => by omega) (fun c => ?_) (by omega) hT' hR
        have hb : bitsF A ≠ 0 := fun e => by
          rw [e] at hq
          cases hq
          have := bitsF_0 e
          omega
        omega
theorem p_mplain {A a : Nat} {l : List Bool} (hA : 1 ≤ A) (hA2 : A ≤ 64) (hm : many ≤ 256) (hT : Tp f a many l) (hR : Rm f many (plainS A 257 l) post) : wp_M_plain post o_length o_spent (nI many) (nI a) (nI 0) o_values o_failures o_works f (nI A) := by
  have hL : l.length ≤ 256 := by have := hT.1; omega
  rw [wp_M_plain]
  refine ⟨l.length + 2, m_pl2 hA hA2 hm (l.length + 2) 257 A a l (fun _ => by omega) (fun _ => ⟨by omega, by omega⟩) (by omega) hT ?_⟩
  rw [if_neg (Nat.lt_irrefl A)]
  exact hR
theorem thrS_sub {A r all v : Nat} {l : List Bool} (h1 : A ≤ all) (h2 : all < 2 * A) (h3 : A ≤ v) : thrS A (r + 1) all v l = thrS A (r + 1) (all - A) (v - A) l := by
  rw [thrS_s, thrS_s, if_neg (by omega), if_pos h3, if_pos (by omega)]
theorem m_th11 {A L0 : Nat} {K : Int32 → Int32 → Int32 → Int32 → Prop} (hA : 1 ≤ A) (hA2 : A ≤ 64) (hm : many ≤ 256) (hK0 : (∀ x, post x (nI many) (nI 1)) → ∀ x y, K (nI many) (nI 1) x y) (hK : ∀ r all v a l, l.length < L0 → l.length < r → v < all → all < A → Tp f a many l → Rm f many (thrS A r all v l) post → K (nI a) (nI 0) (nI all) (nI v)) :
    ∀ (n r all v a : Nat) (l : List Bool), l.length + 1 < n → l.length < r → l.length ≤ L0 → v < all → all < 2 * A → (A ≤ all → v < A ∨ l.length < L0) → Tp f a many l → Rm f many (thrS A r all v l) post → gL4 (wpF_M_thrifty_11 post K o_length o_spent (nI many) o_values o_failures o_works f (nI A)) n (nI a) (nI 0) (nI all) (nI v) := by
  intro n
  induction n with
  | zero => intro r all v a l h; omega
  | succ n ih =>
    intro r all v a l hn hr hL hv hall hc hT hR
    obtain ⟨r, rfl⟩ : ∃ k, r = k + 1 := ⟨r - 1, by omega⟩
    show wpF_M_thrifty_11 post K o_length o_spent (nI many) o_values o_failures o_works f (nI A) (gL4 _ n) (nI a) (nI 0) (nI all) (nI v)
    rw [wpF_M_thrifty_11]
    refine pk_le A all (fun h => ?_) (fun h => ?_)
    · refine pk_le A v (fun h2 => ?_) (fun h2 => ?_)
      · rw [pk_sub h, pk_sub h2]
        rw [thrS_sub h hall h2] at hR
        exact hK (r + 1) (all - A) (v - A) a l (by rcases hc h with c | c <;> omega) hr (by omega) (by omega) hT hR
      · rw [thrS_s, if_neg (by omega), if_neg (by omega)] at hR
        exact hR a hT
    · refine ⟨fun e => absurd rfl e, fun _ => ?_⟩
      refine p_mbit hm hT (fun e => ?_) (fun b l' e hT' => ?_)
      · subst e
        rw [thrS_s, if_pos h] at hR
        obtain ⟨n, rfl⟩ : ∃ k, n = k + 1 := ⟨n - 1, by omega⟩
        show wpF_M_thrifty_11 post K o_length o_spent (nI many) o_values o_failures o_works f (nI A) (gL4 _ n) (nI many) (nI 1) _ _
        rw [wpF_M_thrifty_11]
        exact ⟨fun _ => ⟨fun _ => hK0 hR _ _, fun _ => hR _⟩, fun _ => ⟨fun _ => ⟨fun _ => hK0 hR _ _, fun _ => hR _⟩, fun e => absurd e one_ne0⟩⟩
      · subst e
        simp only [List.length_cons] at hn hr hL hc
        have hb : b.toNat ≤ 1 := Bool.toNat_le b
        rw [thrS_s, if_pos h] at hR
        rw [pk_mul, show nI 2 * nI v + bI b = nI (2 * v + b.toNat) by rw [pk_mul]; exact nI_add _ _]
        exact ih r _ _ (a + 1) l' (by omega) (by omega) (by omega) (by omega) (by omega) (fun _ => Or.inr (by omega)) hT' hR
theorem m_th4 {A : Nat} (hA : 1 ≤ A) (hA2 : A ≤ 64) (hm : many ≤ 256) : ∀ (n r all v a : Nat) (l : List Bool), l.length + 1 < n → l.length < r → v < all → all < 2 * A → (A ≤ all → v < A) → Tp f a many l → Rm f many (thrS A r all v l) post → gL4 (wpF_M_thrifty_4 post o_length o_spent (nI many) o_values o_failures o_works f (nI A)) n (nI a) (nI 0) (nI all) (nI v) := by
  intro n
  induction n with
  | zero => intro r all v a l h; omega
  | succ n ih =>
    intro r all v a l hn hr hv hall hc hT hR
    show wpF_M_thrifty_4 post o_length o_spent (nI many) o_values o_failures o_works f (nI A) (gL4 _ n) (nI a) (nI 0) (nI all) (nI v)
    rw [wpF_M_thrifty_4]
    refine ⟨fun e => absurd rfl e, fun _ => ⟨l.length + 2, ?_⟩⟩
    refine m_th11 (L0 := l.length) (K := gL4 (wpF_M_thrifty_4 post o_length o_spent (nI many) o_values o_failures o_works f (nI A)) n) hA hA2 hm (fun hp x y => ?_) (fun r all v a l' g1 g2 g3 g4 g5 g6 => ih r all v a l' (by omega) g2 g3 (by omega) (fun z => by omega) g5 g6) (l.length + 2) r all v a l (by omega) hr (Nat.le_refl _) hv hall (fun z => Or.inl (hc z)) hT hR
    obtain ⟨n, rfl⟩ : ∃ k, n = k + 1 := ⟨n - 1, by omega⟩
    show wpF_M_thrifty_4 post o_length o_spent (nI many) o_values o_failures o_works f (nI A) (gL4 _ n) (nI many) (nI 1) x y
    rw [wpF_M_thrifty_4]
    exact ⟨fun _ => hp _, fun e => absurd e one_ne0⟩
theorem p_mthrifty {A a : Nat} {l : List Bool} (hA : 1 ≤ A) (hA2 : A ≤ 64) (hm : many ≤ 256) (hT : Tp f a many l) (hR : Rm f many (thrS A 257 1 0 l) post) : wp_M_thrifty post o_length o_spent (nI many) (nI a) (nI 0) o_values o_failures o_works f (nI A) := by
  have hL : l.length ≤ 256 := by have := hT.1; omega
  rw [wp_M_thrifty]
  exact ⟨l.length + 2, m_th4 hA hA2 hm (l.length + 2) 257 1 0 a l (by omega) (by omega) (by omega) (by omega) (fun _ => by omega) hT hR⟩
theorem m_co {B : Nat} (hB0 : 1 ≤ B) (hB : B ≤ 64) (hm : many ≤ 256) : ∀ (n r h a : Nat) (l : List Bool), l.length + 1 < n → l.length < r → h ≤ B → Tp f a many l → Rm f many (coinS B r h l) post → gL3 (wpF_M_coin_2 post o_length o_spent (nI many) o_values o_failures o_works f (nI B)) n (nI a) (nI 0) (nI h) := by
  intro n
  induction n with
  | zero => intro r h a l h; omega
  | succ n ih =>
    intro r h a l hn hr hh hT hR
    obtain ⟨r, rfl⟩ : ∃ k, r = k + 1 := ⟨r - 1, by omega⟩
    show wpF_M_coin_2 post o_length o_spent (nI many) o_values o_failures o_works f (nI B) (gL3 _ n) (nI a) (nI 0) (nI h)
    rw [wpF_M_coin_2]
    rw [coinS_s] at hR
    refine ⟨fun c => ?_, fun c => ?_⟩
    · have e := (nI_l0 (by omega)).mp c
      subst e
      rw [if_pos rfl] at hR
      exact ⟨fun z => absurd rfl z, fun _ => hR a hT⟩
    · have h0 : h ≠ 0 := fun e => c ((nI_l0 (by omega)).mpr e)
      rw [if_neg h0] at hR
      refine pk_le B h (fun c1 => ?_) (fun c1 => ?_)
      · rw [if_pos (by omega : h = B)] at hR
        exact ⟨fun _ => hR a hT, fun z => absurd ((nI_i0 (by omega)).mp z) h0⟩
      · rw [if_neg (by omega)] at hR
        refine ⟨fun e => absurd rfl e, fun _ => ?_⟩
        rw [pk_mul]
        refine p_mbit hm hT (fun e => ?_) (fun b l' e hT' => ?_)
        · subst e
          have out : ∀ x, gL3 (wpF_M_coin_2 post o_length o_spent (nI many) o_values o_failures o_works f (nI B)) n (nI many) (nI 1) x := by
            intro x
            obtain ⟨n, rfl⟩ : ∃ k, n = k + 1 := ⟨n - 1, by omega⟩
            show wpF_M_coin_2 post o_length o_spent (nI many) o_values o_failures o_works f (nI B) (gL3 _ n) (nI many) (nI 1) x
            rw [wpF_M_coin_2]
            exact ⟨fun _ => ⟨fun _ => hR _, fun _ => hR _⟩, fun _ => ⟨fun _ => ⟨fun _ => hR _, fun _ => hR _⟩, fun _ => ⟨fun _ => ⟨fun _ => hR _, fun _ => hR _⟩, fun e => absurd e one_ne0⟩⟩⟩
          exact ⟨fun _ => ⟨fun _ => ⟨fun _ => out _, fun _ => ⟨fun _ => hR _, fun _ => hR _⟩⟩, fun _ => ⟨fun _ => out _, fun _ => ⟨fun _ => hR _, fun _ => hR _⟩⟩⟩, fun _ => ⟨fun _ => ⟨fun _ => out _, fun _ => ⟨fun _ => hR _, fun _ => hR _⟩⟩, fun _ => ⟨fun _ => out _, fun _ => ⟨fun _ => hR _, fun _ => hR _⟩⟩⟩⟩
        · subst e
          simp only [List.length_cons] at hn hr
          dsimp only at hR
          rw [bI_eq0, bI_eq1]
          refine pk_lt (2 * h) B (fun h2 => ?_) (fun h2 => ?_)
          · rw [if_pos h2] at hR
            refine ⟨fun _ => ⟨fun e => ?_, fun e => ?_⟩, fun z => absurd ((nI_ltI (by omega) (by omega)).mpr h2) z⟩
            · subst e
              rw [if_neg (by decide)] at hR
              exact ih r _ (a + 1) l' (by omega) (by omega) (by omega) hT' hR
            · have e : b = true := by cases b <;> simp_all
              subst e
              rw [if_pos rfl] at hR
              exact ⟨fun _ => hR (a + 1) hT', fun z => absurd (by decide) z⟩
          · rw [if_neg (by omega)] at hR
            refine ⟨fun z => absurd ((nI_ltI (by omega) (by omega)).mp z) (by omega), fun _ => ⟨fun e => ?_, fun e => ?_⟩⟩
            · rw [if_pos e] at hR
              rw [pk_sub h2]
              exact ih r _ (a + 1) l' (by omega) (by omega) (by omega) hT' hR
            · have e : b = false := by cases b <;> simp_all
              subst e
              rw [if_neg (by decide)] at hR
              exact ⟨fun z => absurd z (by decide), fun _ => hR (a + 1) hT'⟩
theorem p_mcoin {B h a : Nat} {l : List Bool} (hB0 : 1 ≤ B) (hB : B ≤ 64) (hh : h ≤ B) (hm : many ≤ 256) (hT : Tp f a many l) (hR : Rm f many (coinS B 257 h l) post) : wp_M_coin post o_length o_spent (nI many) (nI a) (nI 0) o_values o_failures o_works f (nI h) (nI B) := by
  have hL : l.length ≤ 256 := by have := hT.1; omega
  rw [wp_M_coin]
  exact ⟨l.length + 2, m_co hB0 hB hm (l.length + 2) 257 h a l (by omega) (by omega) hh hT hR⟩
theorem m_ch {a b : Nat} (ha : a ≤ 6) (hb : b ≤ a) (hm : many ≤ 256) : ∀ (n i t s at_ : Nat) (l : List Bool), a - i + 1 < n → i ≤ a → t ≤ b → b - t ≤ a - i → Tp f at_ many l → Rm f many (choL a b (a - i) t s l) post → gL5 (wpF_M_choice_8 post o_length o_spent (nI many) o_values o_failures o_works f (nI a) (nI b)) n (nI at_) (nI 0) (nI t) (nI s) (nI i) := by
  intro n
  induction n with
  | zero => intro i t s at_ l h; omega
  | succ n ih =>
    intro i t s at_ l hn hi ht hbt hT hR
    show wpF_M_choice_8 post o_length o_spent (nI many) o_values o_failures o_works f (nI a) (nI b) (gL5 _ n) (nI at_) (nI 0) (nI t) (nI s) (nI i)
    rw [wpF_M_choice_8]
    refine pk_le a i (fun h => ?_) (fun h => ?_)
    · rw [show a - i = 0 by omega] at hR
      exact hR at_ hT
    · rw [show a - i = (a - (i + 1)) + 1 by omega] at hR
      refine ⟨fun e => absurd rfl e, fun _ => ?_⟩
      rw [pk_sub ht, pk_sub hi]
      refine p_mcoin (by omega) (by omega) hbt hm hT ?_
      rw [choL, show a - (i + 1) + 1 = a - i by omega] at hR
      cases hq : coinS (a - i) 257 (b - t) l with
      | none =>
        rw [hq] at hR
        have out : ∀ x y z, gL5 (wpF_M_choice_8 post o_length o_spent (nI many) o_values o_failures o_works f (nI a) (nI b)) n (nI many) (nI 1) x y z := by
          intro x y z
          obtain ⟨n, rfl⟩ : ∃ k, n = k + 1 := ⟨n - 1, by omega⟩
          show wpF_M_choice_8 post o_length o_spent (nI many) o_values o_failures o_works f (nI a) (nI b) (gL5 _ n) (nI many) (nI 1) x y z
          rw [wpF_M_choice_8]
          exact ⟨fun _ => hR _, fun _ => ⟨fun _ => hR _, fun e => absurd e one_ne0⟩⟩
        exact fun x => ⟨fun _ => out _ _ _, fun _ => out _ _ _⟩
      | some q =>
        rw [hq] at hR
        obtain ⟨q1, q2, q3, q4⟩ := coinS_01 _ _ _ _ hq
        intro a' hT'
        dsimp only at hR
        rw [show a - (a - i) = i by omega] at hR
        rw [nI_shl1 (by omega), nI_add, nI_add, nI_add]
        refine ⟨fun c => ?_, fun c => ?_⟩
        · have e : q.1 = 0 := by
            rcases Nat.eq_zero_or_pos q.1 with z | z
            · exact z
            · exact absurd (by rw [show q.1 = 1 by omega]) c
          rw [e, Nat.add_zero, Nat.zero_mul, Nat.add_zero] at hR
          refine ih (i + 1) t s a' q.2 (by omega) (by omega) ht ?_ hT' hR
          by_cases e2 : b - t = a - i
          · have := q4 (by omega) e2; omega
          · omega
        · have e : q.1 = 1 := (nI_eq (by omega) (by omega)).mp c
          rw [e, Nat.one_mul] at hR
          refine ih (i + 1) (t + 1) (s + 2 ^ i) a' q.2 (by omega) (by omega) ?_ (by omega) hT' hR
          by_cases e2 : b - t = 0
          · have := q3 e2; omega
          · omega
theorem p_mchoice {a b at_ : Nat} {l : List Bool} (ha : a ≤ 6) (hb : b ≤ a) (hm : many ≤ 256) (hT : Tp f at_ many l) (hR : Rm f many (choL a b a 0 0 l) post) : wp_M_choice post o_length o_spent (nI many) (nI at_) (nI 0) o_values o_failures o_works f (nI a) (nI b) := by
  rw [wp_M_choice]
  exact ⟨a + 2, m_ch ha hb hm (a + 2) 0 0 0 at_ l (by omega) (by omega) (by omega) (by omega) hT hR⟩
end MR
