def Pf {α : Type} (F : List Bool → Option (α × List Bool)) : Prop := ∀ l q, F l = some q → ∃ p, l = p ++ q.2 ∧ ∀ r', F (p ++ r') = some (q.1, r')
theorem Pf.pure {α : Type} (x : α) : Pf (fun l => some (x, l)) := fun l q h => by
  cases h
  exact ⟨[], rfl, fun r' => rfl⟩
theorem Pf.none {α : Type} : Pf (fun _ => (none : Option (α × List Bool))) := fun l q h => by cases h
theorem Pf.bind {α β : Type} {F : List Bool → Option (α × List Bool)} {G : α → List Bool → Option (β × List Bool)} {E : List Bool → Option (β × List Bool)} (hF : Pf F) (hG : ∀ x, Pf (G x)) (hE : ∀ l, E l = match F l with | Option.none => Option.none | some q => G q.1 q.2) : Pf E := by
  intro l q h
  rw [hE] at h
  cases hq : F l with
  | none => rw [hq] at h; cases h
  | some x =>
    rw [hq] at h
    obtain ⟨p1, e1, k1⟩ := hF l x hq
    obtain ⟨p2, e2, k2⟩ := hG x.1 x.2 q h
    refine ⟨p1 ++ p2, by rw [e1, e2, List.append_assoc], fun r' => ?_⟩
    rw [hE, List.append_assoc, k1]
    exact k2 r'
theorem Pf.bit {β : Type} {G : Bool → List Bool → Option (β × List Bool)} {E : List Bool → Option (β × List Bool)} (hG : ∀ b, Pf (G b)) (h0 : E [] = Option.none) (h1 : ∀ b l, E (b :: l) = G b l) : Pf E := by
  intro l q h
  cases l with
  | nil => rw [h0] at h; cases h
  | cons b l =>
    rw [h1] at h
    obtain ⟨p, e, k⟩ := hG b l q h
    refine ⟨b :: p, by rw [e]; rfl, fun r' => ?_⟩
    rw [List.cons_append, h1]
    exact k r'
theorem Pf.congr {α : Type} {F E : List Bool → Option (α × List Bool)} (hF : Pf F) (h : ∀ l, E l = F l) : Pf E := by
  rw [show E = F from funext h]
  exact hF
theorem pf_rdN : ∀ k acc, Pf (rdN k acc) := by
  intro k
  induction k with
  | zero => intro acc; exact (Pf.pure acc).congr (fun l => by cases l <;> rfl)
  | succ k ih => intro acc; exact Pf.bit (G := fun b => rdN k (2 * acc + b.toNat)) (fun b => ih _) rfl (fun b l => rfl)
theorem pf_plainS (A : Nat) : ∀ n, Pf (plainS A n) := by
  intro n
  induction n with
  | zero => exact Pf.none
  | succ n ih =>
    refine Pf.bind (F := rdN (bitsF A) 0) (G := fun v l => if v < A then some (v, l) else plainS A n l) (pf_rdN _ _) (fun v => ?_) (fun l => by rw [plainS]; cases rdN (bitsF A) 0 l <;> rfl)
    by_cases c : v < A
    · exact (Pf.pure v).congr (fun l => if_pos c)
    · exact ih.congr (fun l => if_neg c)
theorem pf_thrS (A : Nat) : ∀ n r v, Pf (thrS A n r v) := by
  intro n
  induction n with
  | zero => intro r v; exact Pf.none
  | succ n ih =>
    intro r v
    by_cases c : r < A
    · refine Pf.bit (G := fun b => thrS A n (2 * r) (2 * v + b.toNat)) (fun b => ih _ _) ?_ (fun b l => ?_)
      · unfold thrS; rw [if_pos c]
      · rw [show thrS A (n + 1) r v (b :: l) = (if r < A then thrS A n (2 * r) (2 * v + b.toNat) l else if A ≤ v then thrS A n (2 * (r - A)) (2 * (v - A) + b.toNat) l else some (v, b :: l)) from rfl, if_pos c]
    · by_cases c2 : A ≤ v
      · refine Pf.bit (G := fun b => thrS A n (2 * (r - A)) (2 * (v - A) + b.toNat)) (fun b => ih _ _) ?_ (fun b l => ?_)
        · unfold thrS; rw [if_neg c, if_pos c2]
        · rw [show thrS A (n + 1) r v (b :: l) = (if r < A then thrS A n (2 * r) (2 * v + b.toNat) l else if A ≤ v then thrS A n (2 * (r - A)) (2 * (v - A) + b.toNat) l else some (v, b :: l)) from rfl, if_neg c, if_pos c2]
      · refine (Pf.pure v).congr (fun l => ?_)
        unfold thrS
        rw [if_neg c, if_neg c2]
theorem pf_coinS (B : Nat) : ∀ n h, Pf (coinS B n h) := by
  intro n
  induction n with
  | zero => intro h; exact Pf.none
  | succ n ih =>
    intro h
    by_cases c0 : h = 0
    · exact (Pf.pure 0).congr (fun l => by unfold coinS; rw [if_pos c0])
    · by_cases c1 : h = B
      · exact (Pf.pure 1).congr (fun l => by unfold coinS; rw [if_neg c0, if_pos c1])
      · refine Pf.bit (G := fun b l => if 2 * h < B then (if b then some (0, l) else coinS B n (2 * h) l) else (if b then coinS B n (2 * h - B) l else some (1, l))) (fun b => ?_) ?_ (fun b l => ?_)
        · by_cases c : 2 * h < B
          · cases b with
            | true => exact (Pf.pure 0).congr (fun l => by rw [if_pos c]; rfl)
            | false => exact (ih _).congr (fun l => by rw [if_pos c]; rfl)
          · cases b with
            | true => exact (ih _).congr (fun l => by rw [if_neg c]; rfl)
            | false => exact (Pf.pure 1).congr (fun l => by rw [if_neg c]; rfl)
        · unfold coinS; rw [if_neg c0, if_neg c1]
        · rw [show coinS B (n + 1) h (b :: l) = (if h = 0 then some (0, b :: l) else if h = B then some (1, b :: l) else if 2 * h < B then (if b then some (0, l) else coinS B n (2 * h) l) else (if b then coinS B n (2 * h - B) l else some (1, l))) from rfl, if_neg c0, if_neg c1]
theorem pf_tosS : ∀ k o, Pf (tosS k o) := by
  intro k
  induction k with
  | zero => intro o; exact (Pf.pure o).congr (fun l => by cases l <;> rfl)
  | succ k ih => intro o; exact Pf.bit (G := fun b => tosS k (o + b.toNat)) (fun b => ih _) rfl (fun b l => rfl)
theorem pf_waiS : ∀ k z, Pf (waiS k z) := by
  intro k
  induction k with
  | zero => intro z; exact (Pf.pure z).congr (fun l => by cases l <;> rfl)
  | succ k ih =>
    intro z
    refine Pf.bit (G := fun b l => if b then some (z, l) else waiS k (z + 1) l) (fun b => ?_) rfl (fun b l => rfl)
    cases b with
    | true => exact (Pf.pure z).congr (fun l => rfl)
    | false => exact (ih _).congr (fun l => rfl)
theorem pf_ordL : ∀ i ρ, Pf (ordL i ρ) := by
  intro i
  induction i with
  | zero => intro ρ; exact (Pf.pure ρ).congr (fun l => rfl)
  | succ i ih => intro ρ; exact Pf.bind (F := plainS (i + 2) 257) (G := fun j l => ordL i (swp ρ (i + 1) j) l) (pf_plainS _ _) (fun j => ih _) (fun l => by rw [ordL]; cases plainS (i + 2) 257 l <;> rfl)
theorem pf_map {α β : Type} {F : List Bool → Option (α × List Bool)} (hF : Pf F) (g : α → β) : Pf (fun l => (F l).map (fun q => (g q.1, q.2))) :=
  Pf.bind (G := fun x l => some (g x, l)) hF (fun x => Pf.pure (g x)) (fun l => by cases F l <;> rfl)
theorem pf_choL (a b : Nat) : ∀ k t s, Pf (choL a b k t s) := by
  intro k
  induction k with
  | zero => intro t s; exact (Pf.pure s).congr (fun l => rfl)
  | succ k ih => intro t s; exact Pf.bind (F := coinS (k + 1) 257 (b - t)) (G := fun x l => choL a b k (t + x) (s + x * 2 ^ (a - (k + 1))) l) (pf_coinS _ _ _) (fun x => ih _ _) (fun l => by rw [choL]; cases coinS (k + 1) 257 (b - t) l <;> rfl)
theorem pf_samp (kind a b : Nat) (w : Nat → Nat) : Pf (samp kind a b w) := by
  match kind with
  | 0 => exact pf_plainS _ _
  | 1 => exact pf_thrS _ _ _ _
  | 2 => exact pf_coinS _ _ _
  | 3 => exact pf_tosS _ _
  | 4 => exact pf_waiS _ _
  | 5 => exact pf_map (pf_ordL _ _) (rnk a)
  | 6 => exact pf_choL _ _ _ _ _
  | k + 7 => exact pf_map (pf_plainS _ _) (fun v => shF w v 7 0)
def sumR (h : Nat → Nat) : Nat → Nat
  | 0 => 0
  | m + 1 => sumR h m + h m
theorem sumR_add (h : Nat → Nat) (a : Nat) : ∀ b, sumR h (a + b) = sumR h a + sumR (fun t => h (a + t)) b := by
  intro b
  induction b with
  | zero => rfl
  | succ b ih =>
    show sumR h (a + b) + h (a + b) = sumR h a + (sumR (fun t => h (a + t)) b + h (a + b))
    omega
theorem sumR_congr {h g : Nat → Nat} : ∀ m, (∀ t, t < m → h t = g t) → sumR h m = sumR g m := by
  intro m
  induction m with
  | zero => intro _; rfl
  | succ m ih =>
    intro e
    show sumR h m + h m = sumR g m + g m
    rw [ih (fun t ht => e t (by omega)), e m (by omega)]
theorem sumR_const (c : Nat) : ∀ m, sumR (fun _ => c) m = m * c := by
  intro m
  induction m with
  | zero => simp [sumR]
  | succ m ih => show sumR (fun _ => c) m + c = _; rw [ih, Nat.succ_mul]
theorem sumR_plus (h g : Nat → Nat) : ∀ m, sumR (fun t => h t + g t) m = sumR h m + sumR g m := by
  intro m
  induction m with
  | zero => rfl
  | succ m ih =>
    show sumR (fun t => h t + g t) m + (h m + g m) = sumR h m + h m + (sumR g m + g m)
    omega
theorem sumR_two (h : Nat → Nat) : ∀ m, sumR h (2 * m) = sumR (fun t => h (2 * t) + h (2 * t + 1)) m := by
  intro m
  induction m with
  | zero => rfl
  | succ m ih =>
    show sumR h (2 * m + 1 + 1) = sumR (fun t => h (2 * t) + h (2 * t + 1)) m + (h (2 * m) + h (2 * m + 1))
    rw [← ih]
    show sumR h (2 * m) + h (2 * m) + h (2 * m + 1) = _
    omega
theorem sumR_le (h : Nat → Nat) (c : Nat) (hc : ∀ t, h t ≤ c) : ∀ m, sumR h m ≤ m * c := by
  intro m
  induction m with
  | zero => exact Nat.zero_le _
  | succ m ih =>
    have := hc m
    show sumR h m + h m ≤ _
    rw [Nat.succ_mul]; omega
theorem sumR_pos {h : Nat → Nat} : ∀ m, 0 < sumR h m ↔ ∃ t, t < m ∧ 0 < h t := by
  intro m
  induction m with
  | zero => exact ⟨fun q => absurd q (Nat.lt_irrefl 0), fun ⟨t, ht, _⟩ => by omega⟩
  | succ m ih =>
    constructor
    · intro q
      have q : 0 < sumR h m + h m := q
      by_cases e : 0 < h m
      · exact ⟨m, by omega, e⟩
      · obtain ⟨t, ht, hp⟩ := ih.mp (by omega)
        exact ⟨t, by omega, hp⟩
    · rintro ⟨t, ht, hp⟩
      show 0 < sumR h m + h m
      by_cases e : t = m
      · subst e; omega
      · have := ih.mpr ⟨t, by omega, hp⟩; omega
def allS : Nat → (List Bool → Nat) → Nat
  | 0, g => g []
  | n + 1, g => allS n (fun l => g (false :: l)) + allS n (fun l => g (true :: l))
def hb : Nat → Nat → List Bool
  | 0, _ => []
  | n + 1, t => t.testBit n :: hb n t
def lb : Nat → Nat → List Bool
  | 0, _ => []
  | n + 1, t => t.testBit 0 :: lb n (t / 2)
theorem hb_len : ∀ n t, (hb n t).length = n := by
  intro n
  induction n with
  | zero => intro t; rfl
  | succ n ih => intro t; show (t.testBit n :: hb n t).length = _; simp [ih]
theorem lb_len : ∀ n t, (lb n t).length = n := by
  intro n
  induction n with
  | zero => intro t; rfl
  | succ n ih => intro t; show (t.testBit 0 :: lb n (t / 2)).length = _; simp [ih]
theorem hb_add : ∀ n k t, k ≤ n → hb k (2 ^ n + t) = hb k t := by
  intro n k
  induction k with
  | zero => intro t _; rfl
  | succ k ih =>
    intro t hk
    show (2 ^ n + t).testBit k :: hb k (2 ^ n + t) = t.testBit k :: hb k t
    rw [ih t (by omega), Nat.testBit_two_pow_add_gt (by omega)]
theorem sum_hb : ∀ n g, sumR (fun t => g (hb n t)) (2 ^ n) = allS n g := by
  intro n
  induction n with
  | zero => intro g; show 0 + g [] = g []; omega
  | succ n ih =>
    intro g
    rw [Nat.pow_succ, Nat.mul_two, sumR_add]
    show _ = allS n (fun l => g (false :: l)) + allS n (fun l => g (true :: l))
    rw [← ih, ← ih]
    congr 1
    · refine sumR_congr _ (fun t ht => ?_)
      show g (t.testBit n :: hb n t) = _
      rw [Nat.testBit_lt_two_pow ht]
    · refine sumR_congr _ (fun t ht => ?_)
      show g ((2 ^ n + t).testBit n :: hb n (2 ^ n + t)) = _
      rw [hb_add n n t (Nat.le_refl n), Nat.testBit_two_pow_add_eq, Nat.testBit_lt_two_pow ht]
      rfl
theorem sum_lb : ∀ n g, sumR (fun t => g (lb n t)) (2 ^ n) = allS n g := by
  intro n
  induction n with
  | zero => intro g; show 0 + g [] = g []; omega
  | succ n ih =>
    intro g
    rw [Nat.pow_succ, Nat.mul_comm, sumR_two, sumR_plus]
    show _ = allS n (fun l => g (false :: l)) + allS n (fun l => g (true :: l))
    rw [← ih, ← ih]
    congr 1
    · refine sumR_congr _ (fun t ht => ?_)
      show g ((2 * t).testBit 0 :: lb n (2 * t / 2)) = _
      rw [show 2 * t / 2 = t by omega, show (2 * t).testBit 0 = false by simp [Nat.testBit_zero]]
    · refine sumR_congr _ (fun t ht => ?_)
      show g ((2 * t + 1).testBit 0 :: lb n ((2 * t + 1) / 2)) = _
      rw [show (2 * t + 1) / 2 = t by omega, show (2 * t + 1).testBit 0 = true by simp [Nat.testBit_zero]]
theorem hb_split : ∀ r m u, hb (r + m) u = hb r (u / 2 ^ m) ++ hb m u := by
  intro r m
  induction r with
  | zero => intro u; rw [Nat.zero_add]; rfl
  | succ r ih =>
    intro u
    rw [show r + 1 + m = (r + m) + 1 by omega]
    show u.testBit (r + m) :: hb (r + m) u = ((u / 2 ^ m).testBit r :: hb r (u / 2 ^ m)) ++ hb m u
    rw [ih, List.cons_append, Nat.testBit_div_two_pow, Nat.add_comm]
theorem bt_nI {t k : Nat} (hk : k < 32) : bt (nI t) k = t.testBit k := by
  show (BitVec.ofNat 32 t).getLsbD k = _
  rw [BitVec.getLsbD_ofNat]
  simp [hk]
theorem bitsO_hb (t : Nat) : ∀ n, n ≤ 32 → bitsO (nI t) n = hb n t := by
  intro n
  induction n with
  | zero => intro _; rfl
  | succ n ih =>
    intro h
    show bt (nI t) n :: bitsO (nI t) n = t.testBit n :: hb n t
    rw [ih (by omega), bt_nI (by omega)]
