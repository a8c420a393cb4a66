def bt (x : Int32) (i : Nat) : Bool := x.toBitVec.getLsbD i
theorem b_ext {x y : Int32} (h : ∀ i, i < 32 → bt x i = bt y i) : x = y := Int32.toBitVec_inj.mp (BitVec.eq_of_getLsbD_eq (fun i hi => h i hi))
theorem b_and (x y : Int32) (i : Nat) : bt (x &&& y) i = (bt x i && bt y i) := by unfold bt; rw [Int32.toBitVec_and, BitVec.getLsbD_and]
theorem s_l : ∀ n, n < 32 → ((nI n &&& 31).toBitVec.smod 32).toNat = n := by decide +kernel
theorem s_u : ∀ n, n < 32 → (((nI n).toUInt32 &&& Int32.toUInt32 31).toBitVec % 32).toNat = n := by decide +kernel
theorem b_ushr (n : Nat) (hn : n < 32) (x : Int32) (i : Nat) : bt ((x.toUInt32 >>> ((nI n).toUInt32 &&& Int32.toUInt32 31)).toInt32) i = bt x (n + i) := by
  show (x.toUInt32 >>> ((nI n).toUInt32 &&& Int32.toUInt32 31)).toBitVec.getLsbD i = x.toUInt32.toBitVec.getLsbD (n + i)
  rw [UInt32.toBitVec_shiftRight]
  show (x.toUInt32.toBitVec >>> (((nI n).toUInt32 &&& Int32.toUInt32 31).toBitVec % 32).toNat).getLsbD i = _
  rw [s_u n hn, BitVec.getLsbD_ushiftRight]
theorem b_sshr (n : Nat) (hn : n < 32) (x : Int32) {i : Nat} (hi : i < 32) : bt (x >>> (nI n &&& 31)) i = if n + i < 32 then bt x (n + i) else bt x 31 := by
  unfold bt
  rw [Int32.toBitVec_shiftRight]
  show (x.toBitVec.sshiftRight ((nI n &&& 31).toBitVec.smod 32).toNat).getLsbD i = _
  rw [s_l n hn, BitVec.getLsbD_sshiftRight, BitVec.msb_eq_getLsbD_last]
  simp [hi]
theorem b_one : ∀ i, i < 32 → bt (nI 1) i = decide (i = 0) := by decide +kernel
theorem b_bI (b : Bool) : ∀ i, i < 32 → bt (bI b) i = (b && decide (i = 0)) := by cases b <;> decide +kernel
theorem low_bit (y : Int32) : y &&& nI 1 = bI (bt y 0) := by
  refine b_ext (fun i hi => ?_)
  rw [b_and, b_one i hi, b_bI _ i hi]
  by_cases e : i = 0
  · subst e; simp
  · simp [e]
theorem bit_u (x : Int32) {k : Nat} (hk : k < 32) : (x.toUInt32 >>> ((nI k).toUInt32 &&& Int32.toUInt32 31)).toInt32 &&& nI 1 = bI (bt x k) := by rw [low_bit, b_ushr k hk]; rfl
theorem bit_s (x : Int32) {k : Nat} (hk : k < 32) : (x >>> (nI k &&& 31)) &&& nI 1 = bI (bt x k) := by rw [low_bit, b_sshr k hk x (by omega), if_pos (by omega)]; rfl
theorem nI_m (k : Nat) : nI k + (-1) = nI k - nI 1 := by rw [Int32.sub_eq_add_neg]; rfl
def isF (x1 x2 x3 S : Int32) : Prop :=
  if x1 = nI 0 then (nI 1 ≤ x2 ∧ x2 ≤ nI 64) else if x1 = nI 1 then (nI 1 ≤ x2 ∧ x2 ≤ nI 64) else if x1 = nI 2 then ((nI 1 ≤ x3 ∧ x3 ≤ nI 64) ∧ (nI 0 ≤ x2 ∧ x2 ≤ x3)) else if x1 = nI 3 then (nI 0 ≤ x2 ∧ x2 ≤ nI 12) else if x1 = nI 4 then (nI 0 ≤ x2 ∧ x2 ≤ nI 12) else if x1 = nI 5 then (nI 1 ≤ x2 ∧ x2 ≤ nI 4) else if x1 = nI 6 then ((nI 1 ≤ x2 ∧ x2 ≤ nI 6) ∧ (nI 0 ≤ x3 ∧ x3 ≤ x2)) else if x1 = nI 7 then (nI 1 ≤ S ∧ S ≤ nI 64) else False
theorem p_isWithin {post : Int32 → Prop} {x y z : Int32} (h1 : y ≤ x ∧ x ≤ z → post (nI 1)) (h0 : ¬ (y ≤ x ∧ x ≤ z) → post (nI 0)) : wp_C_isWithin post x y z := by
  rw [wp_C_isWithin]
  refine ⟨fun h => h0 (fun q => absurd h (Int32.not_lt.mpr q.1)), fun h => ⟨fun h2 => h0 (fun q => absurd h2 (Int32.not_lt.mpr q.2)), fun h2 => h1 ⟨Int32.not_lt.mp h, Int32.not_lt.mp h2⟩⟩⟩
theorem p_within2 {A0 A1 : Prop} {x y z x' y' z' : Int32} (h1 : (y ≤ x ∧ x ≤ z) ∧ (y' ≤ x' ∧ x' ≤ z') → A1) (h0 : ¬ ((y ≤ x ∧ x ≤ z) ∧ (y' ≤ x' ∧ x' ≤ z')) → A0) : ((x < y → A0) ∧ (¬ x < y → ((z < x → A0) ∧ (¬ z < x → ((x' < y' → A0) ∧ (¬ x' < y' → ((z' < x' → A0) ∧ (¬ z' < x' → A1)))))))) := by
  refine ⟨fun h => h0 (fun q => absurd h (Int32.not_lt.mpr q.1.1)), fun h => ⟨fun h2 => h0 (fun q => absurd h2 (Int32.not_lt.mpr q.1.2)), fun h2 => ⟨fun h3 => h0 (fun q => absurd h3 (Int32.not_lt.mpr q.2.1)), fun h3 => ⟨fun h4 => h0 (fun q => absurd h4 (Int32.not_lt.mpr q.2.2)), fun h4 => h1 ⟨⟨Int32.not_lt.mp h, Int32.not_lt.mp h2⟩, ⟨Int32.not_lt.mp h3, Int32.not_lt.mp h4⟩⟩⟩⟩⟩⟩
set_option maxHeartbeats 1000000 in
theorem p_isOne {post : Int32 → Prop} {x x1 x2 x3 : Int32} {vw : Nat → Int32} {w : Nat → Nat} (hW : Wt vw w) (h1 : isF x1 x2 x3 (nI (pfx w 8)) → post (nI 1)) (h0 : ¬ isF x1 x2 x3 (nI (pfx w 8)) → post (nI 0)) : wp_C_isOne post x vw x1 x2 x3 := by
  rw [wp_C_isOne]
  refine ⟨fun c0 => ?_, fun c0 => ?_⟩
  · exact p_isWithin (fun h => ⟨Or.inr rfl, h1 (by rw [isF, if_pos c0]; exact h)⟩) (fun h => ⟨Or.inl rfl, h0 (by rw [isF, if_pos c0]; exact h)⟩)
  refine ⟨fun c1 => ?_, fun c1 => ?_⟩
  · exact p_isWithin (fun h => ⟨Or.inr rfl, h1 (by rw [isF, if_neg c0, if_pos c1]; exact h)⟩) (fun h => ⟨Or.inl rfl, h0 (by rw [isF, if_neg c0, if_pos c1]; exact h)⟩)
  refine ⟨fun c2 => ?_, fun c2 => ?_⟩
  · exact p_isWithin (fun h => ⟨fun e => absurd e (by decide), fun _ => p_isWithin (fun h' => ⟨fun e => absurd e (by decide), fun _ => h1 (by rw [isF, if_neg c0, if_neg c1, if_pos c2]; exact ⟨h, h'⟩)⟩) (fun h' => ⟨fun _ => h0 (by rw [isF, if_neg c0, if_neg c1, if_pos c2]; exact fun q => h' q.2), fun e => absurd rfl e⟩)⟩) (fun h => ⟨fun _ => h0 (by rw [isF, if_neg c0, if_neg c1, if_pos c2]; exact fun q => h q.1), fun e => absurd rfl e⟩)
  refine ⟨fun c3 => ?_, fun c3 => ?_⟩
  · exact p_isWithin (fun h => ⟨Or.inr rfl, h1 (by rw [isF, if_neg c0, if_neg c1, if_neg c2, if_pos c3]; exact h)⟩) (fun h => ⟨Or.inl rfl, h0 (by rw [isF, if_neg c0, if_neg c1, if_neg c2, if_pos c3]; exact h)⟩)
  refine ⟨fun c4 => ?_, fun c4 => ?_⟩
  · exact p_isWithin (fun h => ⟨Or.inr rfl, h1 (by rw [isF, if_neg c0, if_neg c1, if_neg c2, if_neg c3, if_pos c4]; exact h)⟩) (fun h => ⟨Or.inl rfl, h0 (by rw [isF, if_neg c0, if_neg c1, if_neg c2, if_neg c3, if_pos c4]; exact h)⟩)
  refine ⟨fun c5 => ?_, fun c5 => ?_⟩
  · exact p_isWithin (fun h => ⟨Or.inr rfl, h1 (by rw [isF, if_neg c0, if_neg c1, if_neg c2, if_neg c3, if_neg c4, if_pos c5]; exact h)⟩) (fun h => ⟨Or.inl rfl, h0 (by rw [isF, if_neg c0, if_neg c1, if_neg c2, if_neg c3, if_neg c4, if_pos c5]; exact h)⟩)
  refine ⟨fun c6 => ?_, fun c6 => ?_⟩
  · exact p_isWithin (fun h => ⟨fun e => absurd e (by decide), fun _ => p_isWithin (fun h' => ⟨fun e => absurd e (by decide), fun _ => h1 (by rw [isF, if_neg c0, if_neg c1, if_neg c2, if_neg c3, if_neg c4, if_neg c5, if_pos c6]; exact ⟨h, h'⟩)⟩) (fun h' => ⟨fun _ => h0 (by rw [isF, if_neg c0, if_neg c1, if_neg c2, if_neg c3, if_neg c4, if_neg c5, if_pos c6]; exact fun q => h' q.2), fun e => absurd rfl e⟩)⟩) (fun h => ⟨fun _ => h0 (by rw [isF, if_neg c0, if_neg c1, if_neg c2, if_neg c3, if_neg c4, if_neg c5, if_pos c6]; exact fun q => h q.1), fun e => absurd rfl e⟩)
  refine ⟨fun c7 => ?_, fun c7 => ?_⟩
  · exact p_weightSum hW (p_isWithin (fun h => ⟨Or.inr rfl, h1 (by rw [isF, if_neg c0, if_neg c1, if_neg c2, if_neg c3, if_neg c4, if_neg c5, if_neg c6, if_pos c7]; exact h)⟩) (fun h => ⟨Or.inl rfl, h0 (by rw [isF, if_neg c0, if_neg c1, if_neg c2, if_neg c3, if_neg c4, if_neg c5, if_neg c6, if_pos c7]; exact h)⟩))
  exact h0 (by rw [isF, if_neg c0, if_neg c1, if_neg c2, if_neg c3, if_neg c4, if_neg c5, if_neg c6, if_neg c7]; exact fun q => q)
section PM0
variable {o_length o_spent o_many o_at o_isOut o_values o_failures o_works : Int32}
theorem p_ms {vw : Nat → Int32} {w : Nat → Nat} {post : Int32 → Prop} (hW : Wt vw w) (hp : post (nI (pfx w 8))) : ∀ n i : Nat, 8 - i < n → i ≤ 8 → gL2 (wpF_M_sum_4 post vw) n (nI (pfx w i)) (nI i) := by
  intro n
  induction n with
  | zero => intro i h; omega
  | succ n ih =>
    intro i hn hi
    show wpF_M_sum_4 post vw (gL2 _ n) (nI (pfx w i)) (nI i)
    rw [wpF_M_sum_4]
    refine pk_le 8 i (fun h => ?_) (fun h => ?_)
    · rw [show i = 8 by omega]
      exact hp
    · refine ⟨pk_in i 8 h, ?_⟩
      rw [nI_clamp (by omega), (hW i h).1, nI_add, nI_add]
      exact ih (i + 1) (by omega) (by omega)
theorem p_msum {vw : Nat → Int32} {w : Nat → Nat} {post : Int32 → Prop} (hW : Wt vw w) (hp : post (nI (pfx w 8))) : wp_M_sum post o_length o_spent o_many o_at o_isOut o_values o_failures o_works vw := by
  rw [wp_M_sum]
  exact ⟨9, p_ms hW hp 9 0 (by omega) (by omega)⟩
set_option maxHeartbeats 1000000 in
theorem p_misOne {post : Int32 → Prop} {x1 x2 x3 : Int32} {vw : Nat → Int32} {w : Nat → Nat} (hW : Wt vw w) (h1 : isF x1 x2 x3 (nI (pfx w 8)) → post (nI 1)) (h0 : ¬ isF x1 x2 x3 (nI (pfx w 8)) → post (nI 0)) : wp_M_isOne post o_length o_spent o_many o_at o_isOut o_values o_failures o_works vw x1 x2 x3 := by
  rw [wp_M_isOne]
  refine ⟨fun c0 => ?_, fun c0 => ?_⟩
  · exact p_isWithin (post := fun r => post r) (fun h => h1 (by rw [isF, if_pos c0]; exact h)) (fun h => h0 (by rw [isF, if_pos c0]; exact h))
  refine ⟨fun c1 => ?_, fun c1 => ?_⟩
  · exact p_isWithin (post := fun r => post r) (fun h => h1 (by rw [isF, if_neg c0, if_pos c1]; exact h)) (fun h => h0 (by rw [isF, if_neg c0, if_pos c1]; exact h))
  refine ⟨fun c2 => ?_, fun c2 => ?_⟩
  · exact p_within2 (fun h => h1 (by rw [isF, if_neg c0, if_neg c1, if_pos c2]; exact h)) (fun h => h0 (by rw [isF, if_neg c0, if_neg c1, if_pos c2]; exact h))
  refine ⟨fun c3 => ?_, fun c3 => ?_⟩
  · exact p_isWithin (post := fun r => post r) (fun h => h1 (by rw [isF, if_neg c0, if_neg c1, if_neg c2, if_pos c3]; exact h)) (fun h => h0 (by rw [isF, if_neg c0, if_neg c1, if_neg c2, if_pos c3]; exact h))
  refine ⟨fun c4 => ?_, fun c4 => ?_⟩
  · exact p_isWithin (post := fun r => post r) (fun h => h1 (by rw [isF, if_neg c0, if_neg c1, if_neg c2, if_neg c3, if_pos c4]; exact h)) (fun h => h0 (by rw [isF, if_neg c0, if_neg c1, if_neg c2, if_neg c3, if_pos c4]; exact h))
  refine ⟨fun c5 => ?_, fun c5 => ?_⟩
  · exact p_isWithin (post := fun r => post r) (fun h => h1 (by rw [isF, if_neg c0, if_neg c1, if_neg c2, if_neg c3, if_neg c4, if_pos c5]; exact h)) (fun h => h0 (by rw [isF, if_neg c0, if_neg c1, if_neg c2, if_neg c3, if_neg c4, if_pos c5]; exact h))
  refine ⟨fun c6 => ?_, fun c6 => ?_⟩
  · exact p_within2 (fun h => h1 (by rw [isF, if_neg c0, if_neg c1, if_neg c2, if_neg c3, if_neg c4, if_neg c5, if_pos c6]; exact h)) (fun h => h0 (by rw [isF, if_neg c0, if_neg c1, if_neg c2, if_neg c3, if_neg c4, if_neg c5, if_pos c6]; exact h))
  refine ⟨fun c7 => ?_, fun c7 => ?_⟩
  · exact p_msum hW ⟨fun h => h0 (by rw [isF, if_neg c0, if_neg c1, if_neg c2, if_neg c3, if_neg c4, if_neg c5, if_neg c6, if_pos c7]; exact fun q => absurd h (Int32.not_lt.mpr q.1)), fun h => p_msum hW ⟨fun h2 => h0 (by rw [isF, if_neg c0, if_neg c1, if_neg c2, if_neg c3, if_neg c4, if_neg c5, if_neg c6, if_pos c7]; exact fun q => absurd h2 (Int32.not_lt.mpr q.2)), fun h2 => h1 (by rw [isF, if_neg c0, if_neg c1, if_neg c2, if_neg c3, if_neg c4, if_neg c5, if_neg c6, if_pos c7]; exact ⟨Int32.not_lt.mp h, Int32.not_lt.mp h2⟩)⟩⟩
  exact h0 (by rw [isF, if_neg c0, if_neg c1, if_neg c2, if_neg c3, if_neg c4, if_neg c5, if_neg c6, if_neg c7]; exact fun q => q)
end PM0
def okX (x1 x2 x3 : Int32) (w : Nat → Nat) (kind a b : Nat) : Prop := kind < 8 ∧ x1 = nI kind ∧ okS kind a b w ∧ (kind ≠ 7 → x2 = nI a) ∧ ((kind = 2 ∨ kind = 6) → x3 = nI b)
theorem nI_rng {x : Int32} {lo hi : Nat} (h1 : nI lo ≤ x) (h2 : x ≤ nI hi) (hl : lo < 2 ^ 31) (hh : hi < 2 ^ 31) : ∃ a, lo ≤ a ∧ a ≤ hi ∧ x = nI a := by
  have e1 := Int32.le_iff_toInt_le.mp h1
  have e2 := Int32.le_iff_toInt_le.mp h2
  rw [nI_toInt hl] at e1
  rw [nI_toInt hh] at e2
  have h0 : ¬ x < 0 := fun h => by
    have := Int32.lt_iff_toInt_lt.mp h
    have h00 : (0 : Int32).toInt = 0 := by decide
    omega
  obtain ⟨a, ha, rfl⟩ := nI_of h0
  rw [nI_toInt ha] at e1 e2
  exact ⟨a, by omega, by omega, rfl⟩
set_option maxHeartbeats 1000000 in
theorem isF_ok {x1 x2 x3 : Int32} {w : Nat → Nat} (hS : pfx w 8 ≤ 120) (h : isF x1 x2 x3 (nI (pfx w 8))) : ∃ kind a b, okX x1 x2 x3 w kind a b := by
  unfold isF at h
  by_cases c0 : x1 = nI 0
  · rw [if_pos c0] at h
    obtain ⟨a, h1, h2, e⟩ := nI_rng h.1 h.2 (by omega) (by omega)
    exact ⟨0, a, 0, by omega, c0, ⟨h1, h2⟩, fun _ => e, fun z => by omega⟩
  rw [if_neg c0] at h
  by_cases c1 : x1 = nI 1
  · rw [if_pos c1] at h
    obtain ⟨a, h1, h2, e⟩ := nI_rng h.1 h.2 (by omega) (by omega)
    exact ⟨1, a, 0, by omega, c1, ⟨h1, h2⟩, fun _ => e, fun z => by omega⟩
  rw [if_neg c1] at h
  by_cases c2 : x1 = nI 2
  · rw [if_pos c2] at h
    obtain ⟨b, h1, h2, e⟩ := nI_rng h.1.1 h.1.2 (by omega) (by omega)
    obtain ⟨h3, h4⟩ := h.2
    rw [e] at h4
    obtain ⟨a, h5, h6, e2⟩ := nI_rng h3 h4 (by omega) (by omega)
    exact ⟨2, a, b, by omega, c2, ⟨h1, h2, h6⟩, fun _ => e2, fun _ => e⟩
  rw [if_neg c2] at h
  by_cases c3 : x1 = nI 3
  · rw [if_pos c3] at h
    obtain ⟨a, h1, h2, e⟩ := nI_rng h.1 h.2 (by omega) (by omega)
    exact ⟨3, a, 0, by omega, c3, h2, fun _ => e, fun z => by omega⟩
  rw [if_neg c3] at h
  by_cases c4 : x1 = nI 4
  · rw [if_pos c4] at h
    obtain ⟨a, h1, h2, e⟩ := nI_rng h.1 h.2 (by omega) (by omega)
    exact ⟨4, a, 0, by omega, c4, h2, fun _ => e, fun z => by omega⟩
  rw [if_neg c4] at h
  by_cases c5 : x1 = nI 5
  · rw [if_pos c5] at h
    obtain ⟨a, h1, h2, e⟩ := nI_rng h.1 h.2 (by omega) (by omega)
    exact ⟨5, a, 0, by omega, c5, ⟨h1, h2⟩, fun _ => e, fun z => by omega⟩
  rw [if_neg c5] at h
  by_cases c6 : x1 = nI 6
  · rw [if_pos c6] at h
    obtain ⟨a, h1, h2, e⟩ := nI_rng h.1.1 h.1.2 (by omega) (by omega)
    obtain ⟨h3, h4⟩ := h.2
    rw [e] at h4
    obtain ⟨b, h5, h6, e2⟩ := nI_rng h3 h4 (by omega) (by omega)
    exact ⟨6, a, b, by omega, c6, ⟨h1, h2, h6⟩, fun _ => e, fun _ => e2⟩
  rw [if_neg c6] at h
  by_cases c7 : x1 = nI 7
  · rw [if_pos c7] at h
    exact ⟨7, 0, 0, by omega, c7, ⟨(nI_leI (by omega) (by omega)).mp h.1, (nI_leI (by omega) (by omega)).mp h.2⟩, fun z => absurd rfl z, fun z => by omega⟩
  rw [if_neg c7] at h
  exact h.elim
section PS
variable {f : Nat → Int32} {N sz : Nat} {post : Int32 → (Nat → Int32) → Int32 → Prop} {x : Int32}
set_option maxHeartbeats 1000000 in
theorem p_sample {vw vr : Nat → Int32} {w : Nat → Nat} {x1 x2 x3 : Int32} {kind a b at_ : Nat} {l : List Bool} (hW : Wt vw w) (hX : okX x1 x2 x3 w kind a b) (hz : sz ≤ N) (hN : N < 2 ^ 30) (hL : l.length ≤ 256) (hT : Tp f at_ sz l) (hR : RdR f sz (samp kind a b w l) post) : wp_C_sample post N x vw vr (nI sz) (nI at_) f x1 x2 x3 := by
  obtain ⟨hk, rfl, hO, h2, h3⟩ := hX
  rw [wp_C_sample]
  rcases (show kind = 0 ∨ kind = 1 ∨ kind = 2 ∨ kind = 3 ∨ kind = 4 ∨ kind = 5 ∨ kind = 6 ∨ kind = 7 by omega) with rfl | rfl | rfl | rfl | rfl | rfl | rfl | rfl
  · rw [h2 (by decide)]; exact ⟨fun _ => p_plain hO.1 hO.2 hz hN hL hT (hR vr), fun h => absurd rfl h⟩
  · rw [h2 (by decide)]; exact ⟨fun h => absurd h (by decide), fun _ => ⟨fun _ => p_thrifty hO.1 hO.2 hz hN hL hT (hR vr), fun h => absurd rfl h⟩⟩
  · rw [h2 (by decide), h3 (by decide)]; exact ⟨fun h => absurd h (by decide), fun _ => ⟨fun h => absurd h (by decide), fun _ => ⟨fun _ => p_coin hO.2.1 hO.2.2 hz hN hL hT (hR vr), fun h => absurd rfl h⟩⟩⟩
  · rw [h2 (by decide)]; exact ⟨fun h => absurd h (by decide), fun _ => ⟨fun h => absurd h (by decide), fun _ => ⟨fun h => absurd h (by decide), fun _ => ⟨fun _ => p_tosses hO hz hN hT (hR vr), fun h => absurd rfl h⟩⟩⟩⟩
  · rw [h2 (by decide)]; exact ⟨fun h => absurd h (by decide), fun _ => ⟨fun h => absurd h (by decide), fun _ => ⟨fun h => absurd h (by decide), fun _ => ⟨fun h => absurd h (by decide), fun _ => ⟨fun _ => p_wait hO hz hN hT (hR vr), fun h => absurd rfl h⟩⟩⟩⟩⟩
  · rw [h2 (by decide)]; exact ⟨fun h => absurd h (by decide), fun _ => ⟨fun h => absurd h (by decide), fun _ => ⟨fun h => absurd h (by decide), fun _ => ⟨fun h => absurd h (by decide), fun _ => ⟨fun h => absurd h (by decide), fun _ => ⟨fun _ => p_order hO.1 hO.2 hz hN hL hT hR, fun h => absurd rfl h⟩⟩⟩⟩⟩⟩
  · rw [h2 (by decide), h3 (by decide)]; exact ⟨fun h => absurd h (by decide), fun _ => ⟨fun h => absurd h (by decide), fun _ => ⟨fun h => absurd h (by decide), fun _ => ⟨fun h => absurd h (by decide), fun _ => ⟨fun h => absurd h (by decide), fun _ => ⟨fun h => absurd h (by decide), fun _ => ⟨fun _ => p_choice hO.2.1 hO.2.2 hz hN hL hT (hR vr), fun h => absurd rfl h⟩⟩⟩⟩⟩⟩⟩
  · exact ⟨fun h => absurd h (by decide), fun _ => ⟨fun h => absurd h (by decide), fun _ => ⟨fun h => absurd h (by decide), fun _ => ⟨fun h => absurd h (by decide), fun _ => ⟨fun h => absurd h (by decide), fun _ => ⟨fun h => absurd h (by decide), fun _ => ⟨fun h => absurd h (by decide), fun _ => ⟨fun _ => p_share hW hO.1 hO.2 hz hN hL hT (hR vr), fun h => absurd rfl h⟩⟩⟩⟩⟩⟩⟩⟩
end PS
theorem thrS_lt {A : Nat} (hA : A ≤ 64) : ∀ (n r v : Nat) (l : List Bool) (q : Nat × List Bool), thrS A n r v l = some q → q.1 < 64 := by
  intro n
  induction n with
  | zero => intro r v l q h; cases h
  | succ n ih =>
    intro r v l q h
    unfold thrS at h
    by_cases c : r < A
    · rw [if_pos c] at h
      cases l with
      | nil => cases h
      | cons b l => exact ih _ _ _ _ h
    · rw [if_neg c] at h
      by_cases c2 : A ≤ v
      · rw [if_pos c2] at h
        cases l with
        | nil => cases h
        | cons b l => exact ih _ _ _ _ h
      · rw [if_neg c2] at h
        cases h
        show v < 64
        omega
theorem tosS_lt : ∀ (k o : Nat) (l : List Bool) (q : Nat × List Bool), tosS k o l = some q → q.1 ≤ o + k := by
  intro k
  induction k with
  | zero => intro o l q h; cases h; exact Nat.le_refl _
  | succ k ih =>
    intro o l q h
    cases l with
    | nil => cases h
    | cons b l =>
      have hb : b.toNat ≤ 1 := Bool.toNat_le b
      have := ih _ _ _ h
      omega
theorem waiS_lt : ∀ (k z : Nat) (l : List Bool) (q : Nat × List Bool), waiS k z l = some q → q.1 ≤ z + k := by
  intro k
  induction k with
  | zero => intro z l q h; cases h; exact Nat.le_refl _
  | succ k ih =>
    intro z l q h
    cases l with
    | nil => cases h
    | cons b l =>
      unfold waiS at h
      cases b with
      | true => cases h; show z ≤ _; omega
      | false => have := ih _ _ _ h; omega
theorem choL_lt {a b : Nat} (ha : a ≤ 6) : ∀ (k t s : Nat) (l : List Bool) (q : Nat × List Bool), k ≤ a → s < 2 ^ (a - k) → choL a b k t s l = some q → q.1 < 64 := by
  intro k
  induction k with
  | zero =>
    intro t s l q _ hs h
    cases h
    have : 2 ^ (a - 0) ≤ 2 ^ 6 := Nat.pow_le_pow_right (by omega) (by omega)
    show s < 64
    omega
  | succ k ih =>
    intro t s l q hk hs h
    unfold choL at h
    cases hc : coinS (k + 1) 257 (b - t) l with
    | none => rw [hc] at h; cases h
    | some p =>
      rw [hc] at h
      have hp := (coinS_01 _ _ _ _ hc).1
      refine ih _ _ _ _ (by omega) ?_ h
      rw [show a - k = (a - (k + 1)) + 1 by omega, Nat.pow_succ]
      have : p.1 * 2 ^ (a - (k + 1)) ≤ 1 * 2 ^ (a - (k + 1)) := Nat.mul_le_mul_right _ hp
      omega
theorem shF_le (w : Nat → Nat) (v : Nat) : ∀ k i, shF w v k i ≤ i + k := by
  intro k
  induction k with
  | zero => intro i; exact Nat.le_refl _
  | succ k ih =>
    intro i
    unfold shF
    split
    · omega
    · have := ih (i + 1); omega
theorem rnk_lt (a : Nat) (ρ : Nat → Nat) : rnk a ρ < 24 := by
  unfold rnk
  have := les_le ρ 0 1; have := les_le ρ 0 2; have := les_le ρ 0 3; have := les_le ρ 1 2; have := les_le ρ 1 3; have := les_le ρ 2 3
  split <;> omega
theorem samp_lt {x1 x2 x3 : Int32} {w : Nat → Nat} {kind a b : Nat} {l : List Bool} {q : Nat × List Bool} (hX : okX x1 x2 x3 w kind a b) (hS : pfx w 8 ≤ 120) (h : samp kind a b w l = some q) : q.1 < 2 ^ 31 := by
  obtain ⟨hk, -, hO, -, -⟩ := hX
  rcases (show kind = 0 ∨ kind = 1 ∨ kind = 2 ∨ kind = 3 ∨ kind = 4 ∨ kind = 5 ∨ kind = 6 ∨ kind = 7 by omega) with rfl | rfl | rfl | rfl | rfl | rfl | rfl | rfl
  · have := (plainS_lt _ _ _ h).1; have := hO.2; omega
  · have := thrS_lt hO.2 _ _ _ _ _ h; omega
  · have := (coinS_01 _ _ _ _ h).1; omega
  · have := tosS_lt _ _ _ _ h; have h12 : a ≤ 12 := hO; omega
  · have := waiS_lt _ _ _ _ h; have h12 : a ≤ 12 := hO; omega
  · have h : ordS a l = some q := h
    unfold ordS at h
    cases hq : ordL (a - 1) (fun k => k) l with
    | none => rw [hq] at h; cases h
    | some p => rw [hq] at h; cases h; have := rnk_lt a p.1; show rnk a p.1 < _; omega
  · have := choL_lt hO.2.1 _ _ _ _ _ (Nat.le_refl a) (by rw [Nat.sub_self]; decide) h; omega
  · have h : shaS w l = some q := h
    unfold shaS at h
    cases hq : plainS (pfx w 8) 257 l with
    | none => rw [hq] at h; cases h
    | some p => rw [hq] at h; cases h; have := shF_le w p.1 7 0; show shF w p.1 7 0 < _; omega
def bitsO (x : Int32) : Nat → List Bool
  | 0 => []
  | n + 1 => bt x n :: bitsO x n
theorem bitsO_len (x : Int32) : ∀ n, (bitsO x n).length = n := by
  intro n
  induction n with
  | zero => rfl
  | succ n ih => show (bt x n :: bitsO x n).length = _; simp [ih]
theorem Tp.snoc {f : Nat → Int32} {sz : Nat} {l : List Bool} (h : Tp f 0 sz l) (b : Bool) : Tp (upd f sz (bI b)) 0 (sz + 1) (l ++ [b]) := by
  obtain ⟨h1, h2⟩ := h
  refine ⟨by simp; omega, fun j c hj => ?_⟩
  by_cases e : j < l.length
  · rw [List.getElem?_append_left e] at hj
    rw [pk_un (by omega)]
    exact h2 j c hj
  · have hlt := (List.getElem?_eq_some_iff.mp hj).1
    simp at hlt
    have ej : j = l.length := by omega
    subst ej
    rw [List.getElem?_append_right (Nat.le_refl _)] at hj
    simp at hj
    subst hj
    rw [show 0 + l.length = sz by omega, pk_us]
def fdOk (x2 : Int32) (sz N : Nat) (n : Nat) : Prop := n ≤ 32 ∧ x2 = nI n ∧ sz + n ≤ N
theorem p_ap {x : Int32} {N : Nat} {post : Int32 → Int32 → (Nat → Int32) → Prop} (hN : N < 2 ^ 30) : ∀ (n k s : Nat) (f : Nat → Int32) (pre : List Bool), k < n → k ≤ 32 → s + k ≤ N → Tp f 0 s pre → (∀ f', Tp f' 0 (s + k) (pre ++ bitsO x k) → post (nI 1) (nI (s + k)) f') → gL3 (wpF_T_append_30 post N x) n (nI s) f (nI k - nI 1) := by
  intro n
  induction n with
  | zero => intro k s f pre h; omega
  | succ n ih =>
    intro k s f pre hn hk hs hT hp
    show wpF_T_append_30 post N x (gL3 _ n) (nI s) f (nI k - nI 1)
    rw [wpF_T_append_30]
    cases k with
    | zero =>
      refine ⟨fun _ => ?_, fun h => absurd (by decide) h⟩
      have := hp f (by simpa [bitsO] using hT)
      simpa using this
    | succ k =>
      rw [pk_sub (by omega : 1 ≤ k + 1), Nat.add_sub_cancel]
      refine ⟨fun h => absurd h (nI_pos (by omega)), fun _ => ⟨pk_in s N (by omega), ?_⟩⟩
      rw [nI_clamp (by omega), bit_u x (by omega), nI_m, nI_add]
      refine ih k (s + 1) _ (pre ++ [bt x k]) (by omega) (by omega) (by omega) (hT.snoc _) (fun f' hT' => ?_)
      rw [show s + 1 + k = s + (k + 1) by omega] at hT' ⊢
      refine hp f' ?_
      rw [show bitsO x (k + 1) = bt x k :: bitsO x k from rfl, List.append_cons]
      exact hT'
theorem p_append {x1 x2 ta : Int32} {N sz : Nat} {f : Nat → Int32} {l : List Bool} {post : Int32 → Int32 → (Nat → Int32) → Prop} (hN : N < 2 ^ 30) (hz : sz ≤ N) (hT : Tp f 0 sz l) (hno : (∀ n, ¬ fdOk x2 sz N n) → post (nI 0) (nI sz) f) (hy : ∀ n f', fdOk x2 sz N n → Tp f' 0 (sz + n) (l ++ bitsO x1 n) → post (nI 1) (nI (sz + n)) f') : wp_T_append post N (nI sz) ta f x1 x2 := by
  rw [wp_T_append]
  refine ⟨fun h => hno (fun n q => absurd (q.2.1 ▸ h) (nI_pos (by have := q.1; omega))), fun h => ?_⟩
  obtain ⟨n, hn, rfl⟩ := nI_of h
  refine pk_lt 32 n (fun h2 => hno (fun m q => ?_)) (fun h2 => ?_)
  · have := (nI_eq hn (by have := q.1; omega)).mp q.2.1
    have := q.1
    omega
  · rw [pk_sub hz]
    refine pk_le n (N - sz) (fun h3 => ?_) (fun h3 => hno (fun m q => ?_))
    · exact ⟨n + 1, p_ap hN (n + 1) n sz f l (by omega) h2 (by omega) hT (fun f' hT' => hy n f' ⟨h2, rfl, by omega⟩ hT')⟩
    · have := (nI_eq hn (by have := q.1; omega)).mp q.2.1
      have := q.2.2
      omega
theorem p_feed {x1 x2 ta lat : Int32} {sz : Nat} {f : Nat → Int32} {l : List Bool} {post : Int32 → Int32 → (Nat → Int32) → Prop} (hz : sz ≤ 256) (hT : Tp f 0 sz l) (hno : (∀ n, ¬ fdOk x2 sz 256 n) → post (-1) (nI sz) f) (hy : ∀ n f', fdOk x2 sz 256 n → Tp f' 0 (sz + n) (l ++ bitsO x1 n) → post (nI (sz + n)) (nI (sz + n)) f') : wp_C_feed post 256 lat (nI sz) ta f x1 x2 := by
  rw [wp_C_feed]
  refine p_append (by decide) hz hT (fun h => ⟨fun _ => hno h, fun e => absurd rfl e⟩) (fun n f' h hT' => ⟨fun e => absurd e (by decide), fun _ => ?_⟩)
  rw [wp_T_size]
  exact hy n f' h hT'
theorem Tp.drop {f : Nat → Int32} {a sz : Nat} {l : List Bool} (h : Tp f a sz l) : Tp (va_cpy f f a 0 (sz - a)) 0 (sz - a) l := by
  obtain ⟨h1, h2⟩ := h
  refine ⟨by omega, fun j b hj => ?_⟩
  have hlt := (List.getElem?_eq_some_iff.mp hj).1
  rw [pk_cpy_in (by omega) (by omega), show a + (0 + j - 0) = a + j by omega]
  exact h2 j b hj
set_option maxHeartbeats 1000000 in
theorem p_draw {vw vr f : Nat → Int32} {w : Nat → Nat} {x1 x2 x3 lat ta : Int32} {sz : Nat} {l : List Bool} {post : Int32 → Int32 → (Nat → Int32) → Int32 → Int32 → (Nat → Int32) → Prop} (hW : Wt vw w) (hz : sz ≤ 256) (hT : Tp f 0 sz l)
    (hno : ¬ isF x1 x2 x3 (nI (pfx w 8)) → post (-1) lat vr (nI sz) ta f)
    (hy : ∀ kind a b, okX x1 x2 x3 w kind a b → match samp kind a b w l with
      | none => ∀ vr' ta', post (-1) lat vr' (nI sz) ta' f
      | some q => ∀ vr' f', Tp f' 0 q.2.length q.2 → post (nI q.1) (nI (sz - q.2.length)) vr' (nI q.2.length) (nI 0) f') : wp_C_draw post 256 lat vw vr (nI sz) ta f x1 x2 x3 := by
  rw [wp_C_draw]
  have hb := Wt_pfx hW 8 (by omega)
  refine p_isOne hW (fun h => ⟨fun _ => ?_, fun e => absurd e (by decide)⟩) (fun h => ⟨fun e => absurd rfl e, fun _ => hno h⟩)
  obtain ⟨kind, a, b, hX⟩ := isF_ok hb h
  have hy := hy kind a b hX
  have hL : l.length ≤ 256 := by have := hT.1; omega
  rw [wp_T_rewind]
  refine p_sample hW hX hz (by decide) hL hT (fun vr' => ?_)
  cases hq : samp kind a b w l with
  | none =>
    rw [hq] at hy
    exact ⟨fun e => absurd rfl e, fun _ => hy vr' _⟩
  | some q =>
    rw [hq] at hy
    intro a' hT'
    have hal := hT'.1
    have hle := hT'.le
    have hq1 : q.1 < 2 ^ 31 := samp_lt hX hb hq
    refine ⟨fun _ => ?_, fun e => absurd e (nI_ne hq1)⟩
    rw [wp_T_readSoFar, wp_T_dropRead, pk_sub hle, nI_clamp (by omega), nI_clamp (by omega), show (nI 0).toNatClampNeg = 0 from rfl]
    refine ⟨nI_pos (by omega), by decide, nI_pos (by omega), by omega, by omega, ?_⟩
    have h1 := hT'.drop
    rw [show sz - a' = q.2.length by omega] at h1 ⊢
    have h2 := hy vr' _ h1
    rw [show sz - q.2.length = a' by omega] at h2
    exact h2
