def bI (b : Bool) : Int32 := nI b.toNat
def Tp (f : Nat → Int32) (a sz : Nat) (l : List Bool) : Prop := a + l.length = sz ∧ ∀ (j : Nat) (b : Bool), l[j]? = some b → f (a + j) = bI b
theorem Tp.nil {f : Nat → Int32} {a sz : Nat} (h : Tp f a sz []) : a = sz := by simpa [Tp] using h.1
theorem Tp.cons {f : Nat → Int32} {a sz : Nat} {b : Bool} {l : List Bool} (h : Tp f a sz (b :: l)) : f a = bI b ∧ a < sz ∧ Tp f (a + 1) sz l := by
  obtain ⟨h1, h2⟩ := h
  simp only [List.length_cons] at h1
  refine ⟨by simpa using h2 0 b rfl, by omega, by omega, fun j c hj => ?_⟩
  have := h2 (j + 1) c (by simpa using hj)
  rw [show a + 1 + j = a + (j + 1) by omega]
  exact this
theorem Tp.le {f : Nat → Int32} {a sz : Nat} {l : List Bool} (h : Tp f a sz l) : a ≤ sz := by have := h.1; omega
theorem bI_ne (b : Bool) : ¬ bI b = (-1) := by cases b <;> decide
theorem bI_eq1 (b : Bool) : bI b = nI 1 ↔ b = true := by cases b <;> decide
theorem bI_eq0 (b : Bool) : bI b = nI 0 ↔ b = false := by cases b <;> decide
theorem nI_ne {n : Nat} (h : n < 2 ^ 31) : ¬ nI n = (-1) := by
  intro e
  have h1 := congrArg Int32.toInt e
  rw [nI_toInt h] at h1
  have h2 : (-1 : Int32).toInt = -1 := by decide
  omega
theorem nI_i0 {n : Nat} (h : n < 2 ^ 31) : nI n = 0 ↔ n = 0 := by
  rw [show (0 : Int32) = nI 0 from rfl]; exact nI_eq h (by omega)
theorem nI_l0 {n : Nat} (h : n < 2 ^ 31) : nI n ≤ 0 ↔ n = 0 := by
  rw [show (0 : Int32) = nI 0 from rfl, nI_leI h (by omega)]; omega
theorem nI_t0 {n : Nat} (h : n < 2 ^ 31) : ¬ nI n < 0 := nI_pos h
def Rd (f : Nat → Int32) (sz : Nat) (o : Option (Nat × List Bool)) (post : Int32 → Int32 → Prop) : Prop := match o with
  | none => post (-1) (nI sz)
  | some q => ∀ a, Tp f a sz q.2 → post (nI q.1) (nI a)
def rdN : Nat → Nat → List Bool → Option (Nat × List Bool)
  | 0, acc, l => some (acc, l)
  | _ + 1, _, [] => none
  | k + 1, acc, b :: l => rdN k (2 * acc + b.toNat) l
def bitsF (a : Nat) : Nat := if a ≤ 1 then 0 else if a ≤ 2 then 1 else if a ≤ 4 then 2 else if a ≤ 8 then 3 else if a ≤ 16 then 4 else if a ≤ 32 then 5 else 6
def plainS (a : Nat) : Nat → List Bool → Option (Nat × List Bool)
  | 0, _ => none
  | n + 1, l => match rdN (bitsF a) 0 l with
    | none => none
    | some q => if q.1 < a then some q else plainS a n q.2
def thrS (a : Nat) : Nat → Nat → Nat → List Bool → Option (Nat × List Bool)
  | 0, _, _, _ => none
  | n + 1, r, v, l => if r < a then (match l with
      | [] => none
      | b :: l' => thrS a n (2 * r) (2 * v + b.toNat) l')
    else if a ≤ v then (match l with
      | [] => none
      | b :: l' => thrS a n (2 * (r - a)) (2 * (v - a) + b.toNat) l')
    else some (v, l)
def coinS (B : Nat) : Nat → Nat → List Bool → Option (Nat × List Bool)
  | 0, _, _ => none
  | n + 1, h, l => if h = 0 then some (0, l) else if h = B then some (1, l) else (match l with
      | [] => none
      | b :: l' => if 2 * h < B then (if b then some (0, l') else coinS B n (2 * h) l') else (if b then coinS B n (2 * h - B) l' else some (1, l')))
def tosS : Nat → Nat → List Bool → Option (Nat × List Bool)
  | 0, o, l => some (o, l)
  | _ + 1, _, [] => none
  | k + 1, o, b :: l => tosS k (o + b.toNat) l
def waiS : Nat → Nat → List Bool → Option (Nat × List Bool)
  | 0, z, l => some (z, l)
  | _ + 1, _, [] => none
  | k + 1, z, b :: l => if b then some (z, l) else waiS k (z + 1) l
def swp (ρ : Nat → Nat) (i j : Nat) : Nat → Nat := fun k => if k = j then ρ i else if k = i then ρ j else ρ k
def ordL : Nat → (Nat → Nat) → List Bool → Option ((Nat → Nat) × List Bool)
  | 0, ρ, l => some (ρ, l)
  | i + 1, ρ, l => match plainS (i + 2) 257 l with
    | none => none
    | some q => ordL i (swp ρ (i + 1) q.1) q.2
def les (ρ : Nat → Nat) (i j : Nat) : Nat := if ρ j < ρ i then 1 else 0
def rnk (a : Nat) (ρ : Nat → Nat) : Nat := match a with
  | 1 => 0
  | 2 => les ρ 0 1
  | 3 => 2 * (les ρ 0 1 + les ρ 0 2) + les ρ 1 2
  | _ => 6 * (les ρ 0 1 + les ρ 0 2 + les ρ 0 3) + 2 * (les ρ 1 2 + les ρ 1 3) + les ρ 2 3
def ordS (a : Nat) (l : List Bool) : Option (Nat × List Bool) := (ordL (a - 1) (fun k => k) l).map (fun q => (rnk a q.1, q.2))
def choL (a b : Nat) : Nat → Nat → Nat → List Bool → Option (Nat × List Bool)
  | 0, _, s, l => some (s, l)
  | k + 1, t, s, l => match coinS (k + 1) 257 (b - t) l with
    | none => none
    | some q => choL a b k (t + q.1) (s + q.1 * 2 ^ (a - (k + 1))) q.2
def pfx (w : Nat → Nat) : Nat → Nat
  | 0 => 0
  | n + 1 => pfx w n + w n
def shF (w : Nat → Nat) (v : Nat) : Nat → Nat → Nat
  | 0, i => i
  | k + 1, i => if v < pfx w (i + 1) then i else shF w v k (i + 1)
def shaS (w : Nat → Nat) (l : List Bool) : Option (Nat × List Bool) := (plainS (pfx w 8) 257 l).map (fun q => (shF w q.1 7 0, q.2))
def samp (kind a b : Nat) (w : Nat → Nat) (l : List Bool) : Option (Nat × List Bool) := match kind with
  | 0 => plainS a 257 l
  | 1 => thrS a 257 1 0 l
  | 2 => coinS b 257 a l
  | 3 => tosS a 0 l
  | 4 => waiS a 0 l
  | 5 => ordS a l
  | 6 => choL a b a 0 0 l
  | _ => shaS w l
def okS (kind a b : Nat) (w : Nat → Nat) : Prop := match kind with
  | 0 => 1 ≤ a ∧ a ≤ 64
  | 1 => 1 ≤ a ∧ a ≤ 64
  | 2 => 1 ≤ b ∧ b ≤ 64 ∧ a ≤ b
  | 3 => a ≤ 12
  | 4 => a ≤ 12
  | 5 => 1 ≤ a ∧ a ≤ 4
  | 6 => 1 ≤ a ∧ a ≤ 6 ∧ b ≤ a
  | 7 => 1 ≤ pfx w 8 ∧ pfx w 8 ≤ 64
  | _ => False
section PU
variable {f : Nat → Int32} {N sz : Nat} {post : Int32 → Int32 → Prop}
theorem p_readBit {a : Nat} {l : List Bool} (hT : Tp f a sz l) (hz : sz ≤ N) (hN : N < 2 ^ 30) (h0 : l = [] → post (-1) (nI sz)) (h1 : ∀ b l', l = b :: l' → Tp f (a + 1) sz l' → post (bI b) (nI (a + 1))) : wp_T_readBit post N (nI sz) (nI a) f := by
  have hle := hT.le
  rw [wp_T_readBit]
  refine pk_lt a sz (fun h => ?_) (fun h => ?_)
  · cases l with
    | nil => exact absurd hT.nil (by omega)
    | cons b l' =>
      obtain ⟨e1, e2, e3⟩ := hT.cons
      refine ⟨pk_in a N (by omega), ?_⟩
      rw [nI_clamp (by omega), e1, nI_add]
      exact h1 b l' rfl e3
  · cases l with
    | nil => rw [hT.nil]; exact h0 rfl
    | cons b l' => exact absurd hT.cons.2.1 (by omega)
theorem p_rn {k : Nat} (hk : k ≤ 6) (hz : sz ≤ N) (hN : N < 2 ^ 30) : ∀ (n i acc a : Nat) (l : List Bool), k - i < n → i ≤ k → acc < 2 ^ i → Tp f a sz l → Rd f sz (rdN (k - i) acc l) post → gL3 (wpF_T_readNumber_4 post N (nI sz) f (nI k)) n (nI a) (nI acc) (nI i) := by
  intro n
  induction n with
  | zero => intro i acc a l h; omega
  | succ n ih =>
    intro i acc a l hn hi hacc hT hR
    have hp : 2 ^ i ≤ 2 ^ 6 := Nat.pow_le_pow_right (by omega) (by omega)
    show wpF_T_readNumber_4 post N (nI sz) f (nI k) (gL3 _ n) (nI a) (nI acc) (nI i)
    rw [wpF_T_readNumber_4]
    refine pk_le k i (fun h => ?_) (fun h => ?_)
    · rw [show k - i = 0 by omega] at hR
      exact hR a hT
    · rw [show k - i = (k - (i + 1)) + 1 by omega] at hR
      refine p_readBit hT hz hN (fun e => ?_) (fun b l' e hT' => ?_)
      · subst e
        exact ⟨fun h => absurd rfl h, fun _ => hR⟩
      · subst e
        refine ⟨fun _ => ?_, fun h => absurd h (bI_ne b)⟩
        rw [show nI 2 * nI acc + bI b = nI (2 * acc + b.toNat) by rw [pk_mul]; exact nI_add _ _, nI_add]
        refine ih (i + 1) _ (a + 1) l' (by omega) (by omega) ?_ hT' hR
        have : b.toNat ≤ 1 := Bool.toNat_le b
        rw [Nat.pow_succ]; omega
theorem p_readNumber {k a : Nat} {l : List Bool} (hk : k ≤ 6) (hz : sz ≤ N) (hN : N < 2 ^ 30) (hT : Tp f a sz l) (hR : Rd f sz (rdN k 0 l) post) : wp_T_readNumber post N (nI sz) (nI a) f (nI k) := by
  rw [wp_T_readNumber]
  exact ⟨k + 1, p_rn hk hz hN (k + 1) 0 0 a l (by omega) (by omega) (by decide) hT hR⟩
end PU
