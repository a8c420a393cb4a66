def rdsF (F : List Bool → Option (Nat × List Bool)) (l : List Bool) : Nat := match F l with
  | none => l.length
  | some q => l.length - q.2.length
def hitF (F : List Bool → Option (Nat × List Bool)) (xv : Int32) (l : List Bool) : Nat := match F l with
  | none => 0
  | some q => if nI q.1 = xv then 1 else 0
def outF (F : List Bool → Option (Nat × List Bool)) (l : List Bool) : Nat := match F l with
  | none => 1
  | some _ => 0
theorem allS_pos : ∀ (n : Nat) (g : List Bool → Nat), 0 < allS n g ↔ ∃ l, l.length = n ∧ 0 < g l := by
  intro n
  induction n with
  | zero =>
    intro g
    exact ⟨fun h => ⟨[], rfl, h⟩, fun ⟨l, h1, h2⟩ => by rw [List.length_eq_zero_iff.mp h1] at h2; exact h2⟩
  | succ n ih =>
    intro g
    constructor
    · intro h
      have h : 0 < allS n (fun l => g (false :: l)) + allS n (fun l => g (true :: l)) := h
      by_cases e : 0 < allS n (fun l => g (false :: l))
      · obtain ⟨l, h1, h2⟩ := (ih _).mp e
        exact ⟨false :: l, by simp [h1], h2⟩
      · obtain ⟨l, h1, h2⟩ := (ih (fun l => g (true :: l))).mp (by omega)
        exact ⟨true :: l, by simp [h1], h2⟩
    · rintro ⟨l, h1, h2⟩
      show 0 < allS n (fun l => g (false :: l)) + allS n (fun l => g (true :: l))
      cases l with
      | nil => simp at h1
      | cons b l =>
        have hl : l.length = n := by simpa using h1
        cases b with
        | false => have := (ih (fun l => g (false :: l))).mpr ⟨l, hl, h2⟩; omega
        | true => have := (ih (fun l => g (true :: l))).mpr ⟨l, hl, h2⟩; omega
theorem hb_surj (l : List Bool) : ∃ u, u < 2 ^ l.length ∧ hb l.length u = l := by
  have h : 0 < allS l.length (fun k => if k = l then 1 else 0) := (allS_pos _ _).mpr ⟨l, rfl, by simp⟩
  rw [← sum_hb] at h
  obtain ⟨u, h1, h2⟩ := (sumR_pos _).mp h
  refine ⟨u, h1, ?_⟩
  by_cases e : hb l.length u = l
  · exact e
  · simp [e] at h2
section CB
variable {F : List Bool → Option (Nat × List Bool)} {n : Nat}
theorem rds_le (l : List Bool) : rdsF F l ≤ l.length := by
  unfold rdsF
  cases F l with
  | none => exact Nat.le_refl _
  | some q => exact Nat.sub_le _ _
def Bk (F : List Bool → Option (Nat × List Bool)) (n t : Nat) : Nat := 2 ^ (n - rdsF F (hb n t))
theorem Bk_pos (t : Nat) : 0 < Bk F n t := Nat.pow_pos (by decide)
theorem block (hF : Pf F) {t u : Nat} (h : u / Bk F n t = t / Bk F n t) : rdsF F (hb n u) = rdsF F (hb n t) ∧ outF F (hb n u) = outF F (hb n t) ∧ ∀ xv, hitF F xv (hb n u) = hitF F xv (hb n t) := by
  cases hq : F (hb n t) with
  | none =>
    have hB : Bk F n t = 1 := by unfold Bk rdsF; rw [hq]; simp [hb_len]
    rw [hB, Nat.div_one, Nat.div_one] at h
    rw [h]
    exact ⟨rfl, rfl, fun _ => rfl⟩
  | some q =>
    obtain ⟨p, e, k⟩ := hF _ _ hq
    have hlen : p.length + q.2.length = n := by
      have := congrArg List.length e
      rw [hb_len, List.length_append] at this
      omega
    have hR : rdsF F (hb n t) = p.length := by unfold rdsF; rw [hq, hb_len]; show n - q.2.length = _; omega
    have hB : Bk F n t = 2 ^ q.2.length := by unfold Bk; rw [hR, show n - p.length = q.2.length by omega]
    rw [hB] at h
    have s1 : hb n t = hb p.length (t / 2 ^ q.2.length) ++ hb q.2.length t := by rw [← hb_split, hlen]
    have s2 : hb n u = hb p.length (t / 2 ^ q.2.length) ++ hb q.2.length u := by rw [← h, ← hb_split, hlen]
    have hp : p = hb p.length (t / 2 ^ q.2.length) := by
      have e2 := e.symm.trans s1
      exact (List.append_inj e2 (by rw [hb_len])).1
    have hu : F (hb n u) = some (q.1, hb q.2.length u) := by rw [s2, ← hp]; exact k _
    refine ⟨?_, ?_, fun xv => ?_⟩
    · unfold rdsF; rw [hu, hq, hb_len, hb_len]; show n - (hb q.2.length u).length = n - q.2.length; rw [hb_len]
    · unfold outF; rw [hu, hq]
    · unfold hitF; rw [hu, hq]
def Iv (F : List Bool → Option (Nat × List Bool)) (n t : Nat) : Prop := t ≤ 2 ^ n ∧ ∀ u, u < t → (u / Bk F n u + 1) * Bk F n u ≤ t
theorem Iv.zero : Iv F n 0 := ⟨Nat.zero_le _, fun u h => absurd h (Nat.not_lt_zero u)⟩
theorem Iv.al (hF : Pf F) {t : Nat} (h : Iv F n t) : t % Bk F n t = 0 := by
  have hB := Bk_pos (F := F) (n := n) t
  have hd := Nat.div_add_mod t (Bk F n t)
  have hm := Nat.mod_lt t hB
  have hu : (Bk F n t * (t / Bk F n t)) / Bk F n t = t / Bk F n t := Nat.mul_div_cancel_left _ hB
  have hs := block hF hu
  have hBu : Bk F n (Bk F n t * (t / Bk F n t)) = Bk F n t := by unfold Bk; unfold Bk at hs; rw [hs.1]
  rcases Nat.eq_zero_or_pos (t % Bk F n t) with e | e
  · exact e
  · have h1 := h.2 (Bk F n t * (t / Bk F n t)) (by omega)
    rw [hBu, hu, Nat.add_mul, Nat.one_mul, Nat.mul_comm] at h1
    omega
theorem blk_aux {B t u : Nat} (hB : 0 < B) (hm : t % B = 0) (hu : u < B) : (t + u) / B = t / B := by
  obtain ⟨k, rfl⟩ : ∃ k, t = B * k := ⟨t / B, by have := Nat.div_add_mod t B; omega⟩
  rw [Nat.mul_add_div hB, Nat.div_eq_of_lt hu, Nat.add_zero, Nat.mul_div_cancel_left _ hB]
theorem Iv.blk (hF : Pf F) {t : Nat} (h : Iv F n t) {u : Nat} (hu : u < Bk F n t) : (t + u) / Bk F n t = t / Bk F n t := by
  exact blk_aux (Bk_pos t) (h.al hF) hu
theorem Iv.step (hF : Pf F) {t : Nat} (h : Iv F n t) (ht : t < 2 ^ n) : Iv F n (t + Bk F n t) := by
  have hB := Bk_pos (F := F) (n := n) t
  have hd := Nat.div_add_mod t (Bk F n t)
  rw [h.al hF, Nat.add_zero] at hd
  have hr : rdsF F (hb n t) ≤ n := by have := rds_le (F := F) (hb n t); rw [hb_len] at this; exact this
  have hpw : 2 ^ n = Bk F n t * 2 ^ rdsF F (hb n t) := by unfold Bk; rw [← Nat.pow_add]; congr 1; omega
  refine ⟨?_, fun u hu => ?_⟩
  · have h1 : t / Bk F n t < 2 ^ rdsF F (hb n t) := by
      apply Nat.lt_of_mul_lt_mul_left (a := Bk F n t)
      rw [hd, ← hpw]; exact ht
    have h2 := Nat.mul_le_mul_left (Bk F n t) h1
    rw [Nat.mul_succ, hd, ← hpw] at h2
    exact h2
  · by_cases c : u < t
    · have := h.2 u c; omega
    · have hx : (t + (u - t)) / Bk F n t = t / Bk F n t := h.blk hF (by omega)
      rw [show t + (u - t) = u by omega] at hx
      have hs := block hF hx
      have hBu : Bk F n u = Bk F n t := by unfold Bk; rw [hs.1]
      rw [hBu, hx, Nat.add_mul, Nat.one_mul, Nat.mul_comm, hd]
      exact Nat.le_refl _
theorem sum_blk {h : Nat → Nat} {t B : Nat} (e : ∀ u, u < B → h (t + u) = h t) : sumR h (t + B) = sumR h t + B * h t := by
  rw [sumR_add, sumR_congr B e, sumR_const]
def mn (a b : Nat) : Nat := if a < b then a else b
def fewF (F : List Bool → Option (Nat × List Bool)) (n : Nat) (xv : Int32) : Nat → Nat
  | 0 => 13
  | u + 1 => if hitF F xv (hb n u) = 1 then mn (rdsF F (hb n u)) (fewF F n xv u) else fewF F n xv u
theorem mn_le (a b : Nat) : mn a b ≤ b := by unfold mn; split <;> omega
theorem mn_mn (a b : Nat) : mn a (mn a b) = mn a b := by
  unfold mn
  by_cases h : a < b
  · rw [if_pos h, if_neg (Nat.lt_irrefl a)]
  · rw [if_neg h, if_neg h]
theorem fewF_le (xv : Int32) : ∀ t, fewF F n xv t ≤ 13 := by
  intro t
  induction t with
  | zero => exact Nat.le_refl _
  | succ t ih =>
    unfold fewF
    split
    · exact Nat.le_trans (mn_le _ _) ih
    · exact ih
theorem few_blk {xv : Int32} {t B : Nat} (hB : 0 < B) (e1 : ∀ u, u < B → rdsF F (hb n (t + u)) = rdsF F (hb n t)) (e2 : ∀ u, u < B → hitF F xv (hb n (t + u)) = hitF F xv (hb n t)) : fewF F n xv (t + B) = if hitF F xv (hb n t) = 1 then mn (rdsF F (hb n t)) (fewF F n xv t) else fewF F n xv t := by
  obtain ⟨k, rfl⟩ : ∃ k, B = k + 1 := ⟨B - 1, by omega⟩
  clear hB
  induction k with
  | zero => rfl
  | succ k ih =>
    have ih := ih (fun u hu => e1 u (by omega)) (fun u hu => e2 u (by omega))
    show (if hitF F xv (hb n (t + (k + 1))) = 1 then mn (rdsF F (hb n (t + (k + 1)))) (fewF F n xv (t + (k + 1))) else fewF F n xv (t + (k + 1))) = _
    rw [e2 (k + 1) (by omega), e1 (k + 1) (by omega), ih]
    by_cases c : hitF F xv (hb n t) = 1
    · rw [if_pos c, if_pos c, mn_mn]
    · rw [if_neg c, if_neg c]
theorem few_lo (xv : Int32) : ∀ t u, u < t → hitF F xv (hb n u) = 1 → fewF F n xv t ≤ rdsF F (hb n u) := by
  intro t
  induction t with
  | zero => intro u h; omega
  | succ t ih =>
    intro u hu h1
    unfold fewF
    by_cases e : u = t
    · subst e
      rw [if_pos h1]
      unfold mn; split <;> omega
    · have := ih u (by omega) h1
      split
      · exact Nat.le_trans (mn_le _ _) this
      · exact this
theorem few_at (xv : Int32) : ∀ t, fewF F n xv t = 13 ∨ ∃ u, u < t ∧ hitF F xv (hb n u) = 1 ∧ rdsF F (hb n u) = fewF F n xv t := by
  intro t
  induction t with
  | zero => exact Or.inl rfl
  | succ t ih =>
    unfold fewF
    by_cases c : hitF F xv (hb n t) = 1
    · rw [if_pos c]
      by_cases d : rdsF F (hb n t) < fewF F n xv t
      · exact Or.inr ⟨t, by omega, c, by unfold mn; rw [if_pos d]⟩
      · rw [show mn (rdsF F (hb n t)) (fewF F n xv t) = fewF F n xv t from if_neg d]
        rcases ih with h | ⟨u, h1, h2, h3⟩
        · exact Or.inl h
        · exact Or.inr ⟨u, by omega, h2, h3⟩
    · rw [if_neg c]
      rcases ih with h | ⟨u, h1, h2, h3⟩
      · exact Or.inl h
      · exact Or.inr ⟨u, by omega, h2, h3⟩
theorem hit_some {xv : Int32} {l : List Bool} (h : 0 < hitF F xv l) : ∃ q, F l = some q ∧ nI q.1 = xv := by
  unfold hitF at h
  cases hq : F l with
  | none => rw [hq] at h; exact absurd h (Nat.lt_irrefl 0)
  | some q =>
    rw [hq] at h
    refine ⟨q, rfl, ?_⟩
    dsimp only at h
    split at h
    · assumption
    · exact absurd h (Nat.lt_irrefl 0)
theorem hit_of {xv : Int32} {l : List Bool} {q : Nat × List Bool} (h : F l = some q) (e : nI q.1 = xv) : hitF F xv l = 1 := by
  unfold hitF; rw [h]; exact if_pos e
theorem few_in (hF : Pf F) {xv : Int32} (h : fewF F 12 xv (2 ^ 12) ≤ 12) : 0 < allS (fewF F 12 xv (2 ^ 12)) (hitF F xv) := by
  rcases few_at (F := F) (n := 12) xv (2 ^ 12) with e | ⟨u, h1, h2, h3⟩
  · omega
  · obtain ⟨q, hq, hv⟩ := hit_some (by rw [h2]; decide)
    obtain ⟨p, e, k⟩ := hF _ _ hq
    have hl := congrArg List.length e
    rw [hb_len, List.length_append] at hl
    have hr : rdsF F (hb 12 u) = p.length := by unfold rdsF; rw [hq, hb_len]; show 12 - q.2.length = _; omega
    refine (allS_pos _ _).mpr ⟨p, by omega, ?_⟩
    have hk := k []
    rw [List.append_nil] at hk
    rw [hit_of hk hv]; decide
theorem few_lt (hF : Pf F) {xv : Int32} {m : Nat} (hm : m ≤ 12) (h : 0 < allS m (hitF F xv)) : fewF F 12 xv (2 ^ 12) ≤ m := by
  obtain ⟨l, hl, hh⟩ := (allS_pos _ _).mp h
  obtain ⟨q, hq, hv⟩ := hit_some hh
  obtain ⟨p, e, k⟩ := hF _ _ hq
  have hpl := congrArg List.length e
  rw [List.length_append] at hpl
  obtain ⟨u, hu1, hu2⟩ := hb_surj (p ++ (q.2 ++ List.replicate (12 - m) false))
  have hlen : (p ++ (q.2 ++ List.replicate (12 - m) false)).length = 12 := by simp; omega
  rw [hlen] at hu1 hu2
  have hk := k (q.2 ++ List.replicate (12 - m) false)
  rw [← hu2] at hk
  have h1 := few_lo (F := F) (n := 12) xv (2 ^ 12) u hu1 (hit_of hk hv)
  have hr : rdsF F (hb 12 u) = p.length := by unfold rdsF; rw [hk, hb_len]; simp; omega
  omega
end CB
theorem p_app0 {ta : Int32} {f : Nat → Int32} {t n : Nat} {post : Int32 → Int32 → (Nat → Int32) → Prop} (hn : n ≤ 12) (h : ∀ f', Tp f' 0 n (hb n t) → post (nI 1) (nI n) f') : wp_T_append post 12 (nI 0) ta f (nI t) (nI n) := by
  refine p_append (sz := 0) (l := []) (by decide) (by decide) ⟨rfl, fun j b hj => by simp at hj⟩ (fun h0 => absurd ⟨by omega, rfl, by omega⟩ (h0 n)) (fun m f' hm hT => ?_)
  have e : n = m := (nI_eq (by omega) (by have := hm.1; omega)).mp hm.2.1
  subst e
  rw [List.nil_append, bitsO_hb t n (by omega)] at hT
  rw [Nat.zero_add] at hT ⊢
  exact h f' hT
theorem mx1 {k : Nat} (h : k < 31) : (if nI 1 < nI (2 ^ k) then nI (2 ^ k) else nI 1) = nI (2 ^ k) := by
  by_cases c : nI 1 < nI (2 ^ k)
  · rw [if_pos c]
  · rw [if_neg c]
    have h1 : 2 ^ k < 2 ^ 31 := Nat.pow_lt_pow_right (by decide) h
    have h2 : 0 < 2 ^ k := Nat.pow_pos (by decide)
    have h3 : ¬ 1 < 2 ^ k := fun z => c ((nI_ltI (by decide) h1).mpr z)
    have h4 : 2 ^ k = 1 := by omega
    rw [h4]
set_option maxHeartbeats 2000000 in
theorem p_tl {vw : Nat → Int32} {w : Nat → Nat} {x1 x2 x3 xv lat : Int32} {kind a b n : Nat} {post : (Nat → Int32) → Int32 → Int32 → (Nat → Int32) → Int32 → Int32 → Int32 → Int32 → Prop} (hW : Wt vw w) (hX : okX x1 x2 x3 w kind a b) (hn : n ≤ 12)
    (hp : ∀ vr sz ta vb, post vr sz ta vb (nI (allS n (hitF (samp kind a b w) xv))) (nI (allS n (outF (samp kind a b w)))) (nI (allS n (rdsF (samp kind a b w)))) (nI (fewF (samp kind a b w) n xv (2 ^ n)))) :
    ∀ (m t : Nat) (vr : Nat → Int32) (sz ta : Int32) (vb : Nat → Int32), 2 ^ n - t < m → Iv (samp kind a b w) n t → gL9 (wpF_C_tryAllTapes_19 post 12 lat vw x1 x2 x3 (nI n) xv (nI (2 ^ n))) m vr sz ta vb (nI (sumR (fun u => hitF (samp kind a b w) xv (hb n u)) t)) (nI (sumR (fun u => outF (samp kind a b w) (hb n u)) t)) (nI (sumR (fun u => rdsF (samp kind a b w) (hb n u)) t)) (nI (fewF (samp kind a b w) n xv t)) (nI t) := by
  have hpw : 2 ^ n ≤ 2 ^ 12 := Nat.pow_le_pow_right (by omega) hn
  have hF := pf_samp kind a b w
  have hb8 := Wt_pfx hW 8 (by omega)
  intro m
  induction m with
  | zero => intro t vr sz ta vb h; omega
  | succ m ih =>
    intro t vr sz ta vb hm hI
    show wpF_C_tryAllTapes_19 post 12 lat vw x1 x2 x3 (nI n) xv (nI (2 ^ n)) (gL9 _ m) vr sz ta vb _ _ _ _ (nI t)
    rw [wpF_C_tryAllTapes_19]
    have hle := hI.1
    refine pk_le (2 ^ n) t (fun h => ?_) (fun h => ?_)
    · have e : t = 2 ^ n := by omega
      subst e
      rw [sum_hb n (hitF (samp kind a b w) xv), sum_hb n (outF (samp kind a b w)), sum_hb n (rdsF (samp kind a b w))]
      exact hp vr sz ta vb
    · rw [wp_T_clear]
      refine p_app0 hn (fun f' hT => ?_)
      have hlen := hb_len n t
      have hst := hI.step hF h
      have hB := Bk_pos (F := samp kind a b w) (n := n) t
      have hblk : ∀ u, u < Bk (samp kind a b w) n t → _ := fun u hu => block hF (hI.blk hF hu)
      have s1 := sum_blk (h := fun u => hitF (samp kind a b w) xv (hb n u)) (t := t) (B := Bk (samp kind a b w) n t) (fun u hu => (hblk u hu).2.2 xv)
      have s2 := sum_blk (h := fun u => outF (samp kind a b w) (hb n u)) (t := t) (B := Bk (samp kind a b w) n t) (fun u hu => (hblk u hu).2.1)
      have s3 := sum_blk (h := fun u => rdsF (samp kind a b w) (hb n u)) (t := t) (B := Bk (samp kind a b w) n t) (fun u hu => (hblk u hu).1)
      have s4 := few_blk (F := samp kind a b w) (n := n) (xv := xv) (t := t) hB (fun u hu => (hblk u hu).1) (fun u hu => (hblk u hu).2.2 xv)
      have hf13 := fewF_le (F := samp kind a b w) (n := n) xv t
      refine p_sample hW hX (by omega) (by decide) (by omega) hT (fun vr' => ?_)
      have go : ∀ (ta' : Int32), gL9 (wpF_C_tryAllTapes_19 post 12 lat vw x1 x2 x3 (nI n) xv (nI (2 ^ n))) m vr' (nI n) ta' f' (nI (sumR (fun u => hitF (samp kind a b w) xv (hb n u)) (t + Bk (samp kind a b w) n t))) (nI (sumR (fun u => outF (samp kind a b w) (hb n u)) (t + Bk (samp kind a b w) n t))) (nI (sumR (fun u => rdsF (samp kind a b w) (hb n u)) (t + Bk (samp kind a b w) n t))) (nI (fewF (samp kind a b w) n xv (t + Bk (samp kind a b w) n t))) (nI (t + Bk (samp kind a b w) n t)) := fun ta' => ih _ vr' (nI n) ta' f' (by omega) hst
      rw [s1, s2, s3, s4] at go
      cases hq : samp kind a b w (hb n t) with
      | none =>
        have r1 : rdsF (samp kind a b w) (hb n t) = n := by unfold rdsF; rw [hq]; exact hlen
        have r2 : outF (samp kind a b w) (hb n t) = 1 := by unfold outF; rw [hq]
        have r3 : hitF (samp kind a b w) xv (hb n t) = 0 := by unfold hitF; rw [hq]
        have r4 : Bk (samp kind a b w) n t = 1 := by unfold Bk; rw [r1, Nat.sub_self]
        rw [r1, r2, r3, r4, if_neg (by decide)] at go
        unfold Rd
        dsimp only
        rw [wp_T_readSoFar, wp_T_readSoFar, wp_Y_add, pk_sub (Nat.le_refl n), Nat.sub_self, nI_shl1 (by omega), mx1 (by omega)]
        refine ⟨fun e => absurd rfl e, fun _ => ?_⟩
        have := go (nI n)
        rw [pk_mul, nI_add, nI_add, nI_add]
        simpa [Nat.mul_comm] using this
      | some q =>
        intro a' hT'
        have hal := hT'.1
        have hq1 : q.1 < 2 ^ 31 := samp_lt hX hb8 hq
        have r1 : rdsF (samp kind a b w) (hb n t) = a' := by unfold rdsF; rw [hq]; show (hb n t).length - q.2.length = _; omega
        have r2 : outF (samp kind a b w) (hb n t) = 0 := by unfold outF; rw [hq]
        have r3 : hitF (samp kind a b w) xv (hb n t) = if nI q.1 = xv then 1 else 0 := by unfold hitF; rw [hq]
        have r4 : Bk (samp kind a b w) n t = 2 ^ (n - a') := by unfold Bk; rw [r1]
        rw [r1, r2, r3, r4] at go
        rw [wp_T_readSoFar, wp_T_readSoFar, wp_Y_add, pk_sub hT'.le, nI_shl1 (by omega), mx1 (by omega)]
        refine ⟨fun _ => ⟨fun e => ?_, fun e => ?_⟩, fun e => absurd e (nI_ne hq1)⟩
        · rw [if_neg e, if_neg (by decide)] at go
          have := go (nI a')
          rw [pk_mul, nI_add, nI_add]
          simpa [Nat.mul_comm] using this
        · rw [if_pos e, if_pos rfl] at go
          have := go (nI a')
          rw [pk_mul, nI_add, nI_add, nI_add]
          have em : (if nI a' < nI (fewF (samp kind a b w) n xv t) then nI a' else nI (fewF (samp kind a b w) n xv t)) = nI (mn a' (fewF (samp kind a b w) n xv t)) := by
            unfold mn
            by_cases c : a' < fewF (samp kind a b w) n xv t
            · rw [if_pos c, if_pos ((nI_ltI (by omega) (by omega)).mpr c)]
            · rw [if_neg c, if_neg (fun z => c ((nI_ltI (by omega) (by omega)).mp z))]
          rw [em]
          simpa [Nat.mul_comm] using this
theorem p_tryAllTapes {vw vr vb : Nat → Int32} {w : Nat → Nat} {x1 x2 x3 xv lat sz ta y1 y2 y3 y4 : Int32} {kind a b n : Nat} {post : (Nat → Int32) → Int32 → Int32 → (Nat → Int32) → Int32 → Int32 → Int32 → Int32 → Prop} (hW : Wt vw w) (hX : okX x1 x2 x3 w kind a b) (hn : n ≤ 12)
    (hp : ∀ vr sz ta vb, post vr sz ta vb (nI (allS n (hitF (samp kind a b w) xv))) (nI (allS n (outF (samp kind a b w)))) (nI (allS n (rdsF (samp kind a b w)))) (nI (fewF (samp kind a b w) n xv (2 ^ n)))) : wp_C_tryAllTapes post 12 lat vw vr sz ta vb y1 y2 y3 y4 x1 x2 x3 (nI n) xv := by
  rw [wp_C_tryAllTapes, wp_Y_clear, nI_shl1 (by omega)]
  exact ⟨2 ^ n + 1, p_tl hW hX hn hp (2 ^ n + 1) 0 vr sz ta vb (Nat.lt_succ_of_le (Nat.sub_le _ _)) Iv.zero⟩
theorem p_isCountable {post : Int32 → Prop} {x x1 x2 x3 x4 : Int32} {vw : Nat → Int32} {w : Nat → Nat} (hW : Wt vw w) (h1 : (nI 0 ≤ x4 ∧ x4 ≤ nI 12) ∧ isF x1 x2 x3 (nI (pfx w 8)) → post (nI 1)) (h0 : ¬ ((nI 0 ≤ x4 ∧ x4 ≤ nI 12) ∧ isF x1 x2 x3 (nI (pfx w 8))) → post (nI 0)) : wp_C_isCountable post x vw x1 x2 x3 x4 := by
  rw [wp_C_isCountable]
  refine p_isWithin (fun h => ⟨fun e => absurd e (by decide), fun _ => ?_⟩) (fun h => ⟨fun _ => h0 (fun q => h q.1), fun e => absurd rfl e⟩)
  exact p_isOne hW (fun g => ⟨fun e => absurd e (by decide), fun _ => h1 ⟨h, g⟩⟩) (fun g => ⟨fun _ => h0 (fun q => g q.2), fun e => absurd rfl e⟩)
section CT
variable {vw vr vb : Nat → Int32} {w : Nat → Nat} {x1 x2 x3 x4 x5 lat sz ta y1 y2 y3 y4 : Int32} {post : Int32 → (Nat → Int32) → Int32 → Int32 → (Nat → Int32) → Int32 → Int32 → Int32 → Int32 → Prop}
theorem p_count (hW : Wt vw w) (hno : ¬ ((nI 0 ≤ x4 ∧ x4 ≤ nI 12) ∧ isF x1 x2 x3 (nI (pfx w 8))) → post (-1) vr sz ta vb y1 y2 y3 y4) (hy : ∀ kind a b n, okX x1 x2 x3 w kind a b → n ≤ 12 → x4 = nI n → ∀ vr sz ta vb y1 y2 y3 y4, post (nI (allS n (hitF (samp kind a b w) x5))) vr sz ta vb y1 y2 y3 y4) : wp_C_count post 12 lat vw vr sz ta vb y1 y2 y3 y4 x1 x2 x3 x4 x5 := by
  rw [wp_C_count]
  refine p_isCountable hW (fun h => ⟨fun _ => ?_, fun e => absurd e (by decide)⟩) (fun h => ⟨fun e => absurd rfl e, fun _ => hno h⟩)
  obtain ⟨kind, a, b, hX⟩ := isF_ok (Wt_pfx hW 8 (by omega)) h.2
  obtain ⟨n, -, hn, e⟩ := nI_rng h.1.1 h.1.2 (by omega) (by omega)
  subst e
  exact p_tryAllTapes hW hX hn (fun vr sz ta vb => hy kind a b n hX hn rfl vr sz ta vb _ _ _ _)
theorem p_fails (hW : Wt vw w) (hno : ¬ ((nI 0 ≤ x4 ∧ x4 ≤ nI 12) ∧ isF x1 x2 x3 (nI (pfx w 8))) → post (-1) vr sz ta vb y1 y2 y3 y4) (hy : ∀ kind a b n, okX x1 x2 x3 w kind a b → n ≤ 12 → x4 = nI n → ∀ vr sz ta vb y1 y2 y3 y4, post (nI (allS n (outF (samp kind a b w)))) vr sz ta vb y1 y2 y3 y4) : wp_C_fails post 12 lat vw vr sz ta vb y1 y2 y3 y4 x1 x2 x3 x4 := by
  rw [wp_C_fails]
  refine p_isCountable hW (fun h => ⟨fun _ => ?_, fun e => absurd e (by decide)⟩) (fun h => ⟨fun e => absurd rfl e, fun _ => hno h⟩)
  obtain ⟨kind, a, b, hX⟩ := isF_ok (Wt_pfx hW 8 (by omega)) h.2
  obtain ⟨n, -, hn, e⟩ := nI_rng h.1.1 h.1.2 (by omega) (by omega)
  subst e
  exact p_tryAllTapes hW hX hn (fun vr sz ta vb => hy kind a b n hX hn rfl vr sz ta vb _ _ _ _)
theorem p_work (hW : Wt vw w) (hno : ¬ ((nI 0 ≤ x4 ∧ x4 ≤ nI 12) ∧ isF x1 x2 x3 (nI (pfx w 8))) → post (-1) vr sz ta vb y1 y2 y3 y4) (hy : ∀ kind a b n, okX x1 x2 x3 w kind a b → n ≤ 12 → x4 = nI n → ∀ vr sz ta vb y1 y2 y3 y4, post (nI (allS n (rdsF (samp kind a b w)))) vr sz ta vb y1 y2 y3 y4) : wp_C_work post 12 lat vw vr sz ta vb y1 y2 y3 y4 x1 x2 x3 x4 := by
  rw [wp_C_work]
  refine p_isCountable hW (fun h => ⟨fun _ => ?_, fun e => absurd e (by decide)⟩) (fun h => ⟨fun e => absurd rfl e, fun _ => hno h⟩)
  obtain ⟨kind, a, b, hX⟩ := isF_ok (Wt_pfx hW 8 (by omega)) h.2
  obtain ⟨n, -, hn, e⟩ := nI_rng h.1.1 h.1.2 (by omega) (by omega)
  subst e
  exact p_tryAllTapes hW hX hn (fun vr sz ta vb => hy kind a b n hX hn rfl vr sz ta vb _ _ _ _)
theorem p_first (hW : Wt vw w) (hno : ¬ isF x1 x2 x3 (nI (pfx w 8)) → post (-1) vr sz ta vb y1 y2 y3 y4) (hy : ∀ kind a b, okX x1 x2 x3 w kind a b → ∀ vr sz ta vb y1 y2 y3 y4, post (nI (fewF (samp kind a b w) 12 x4 (2 ^ 12))) vr sz ta vb y1 y2 y3 y4) : wp_C_first post 12 lat vw vr sz ta vb y1 y2 y3 y4 x1 x2 x3 x4 := by
  rw [wp_C_first]
  refine p_isOne hW (fun h => ⟨fun _ => ?_, fun e => absurd e (by decide)⟩) (fun h => ⟨fun e => absurd rfl e, fun _ => hno h⟩)
  obtain ⟨kind, a, b, hX⟩ := isF_ok (Wt_pfx hW 8 (by omega)) h
  exact p_tryAllTapes hW hX (Nat.le_refl 12) (fun vr sz ta vb => hy kind a b hX vr sz ta vb _ _ _ _)
end CT
