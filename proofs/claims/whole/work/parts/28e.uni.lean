theorem samp_0 (a b : Nat) (w : Nat → Nat) (l : List Bool) : samp 0 a b w l = plainS a 257 l := by unfold samp; rfl
theorem samp_1 (a b : Nat) (w : Nat → Nat) (l : List Bool) : samp 1 a b w l = thrS a 257 1 0 l := by unfold samp; rfl
theorem samp_3 (a b : Nat) (w : Nat → Nat) (l : List Bool) : samp 3 a b w l = tosS a 0 l := by unfold samp; rfl
theorem samp_4 (a b : Nat) (w : Nat → Nat) (l : List Bool) : samp 4 a b w l = waiS a 0 l := by unfold samp; rfl
theorem samp_5 (a b : Nat) (w : Nat → Nat) (l : List Bool) : samp 5 a b w l = ordS a l := by unfold samp; rfl
theorem samp_7 (a b : Nat) (w : Nat → Nat) (l : List Bool) : samp 7 a b w l = shaS w l := by unfold samp; rfl
theorem okX_uni {x1 x2 x3 : Int32} {w : Nat → Nat} {k a b k' a' b' : Nat} (h : okX x1 x2 x3 w k a b) (h' : okX x1 x2 x3 w k' a' b') : samp k a b w = samp k' a' b' w := by
  obtain ⟨hk, e1, hO, h2, h3⟩ := h
  obtain ⟨hk', e1', hO', h2', h3'⟩ := h'
  have e : k = k' := (nI_eq (by omega) (by omega)).mp (e1.symm.trans e1')
  subst e
  rcases (show k = 0 ∨ k = 1 ∨ k = 2 ∨ k = 3 ∨ k = 4 ∨ k = 5 ∨ k = 6 ∨ k = 7 by omega) with rfl | rfl | rfl | rfl | rfl | rfl | rfl | rfl
  · have ea : a = a' := (nI_eq (by have := hO.2; omega) (by have := hO'.2; omega)).mp ((h2 (by decide)).symm.trans (h2' (by decide)))
    subst ea; funext l; rw [samp_0, samp_0]
  · have ea : a = a' := (nI_eq (by have := hO.2; omega) (by have := hO'.2; omega)).mp ((h2 (by decide)).symm.trans (h2' (by decide)))
    subst ea; funext l; rw [samp_1, samp_1]
  · obtain ⟨q1, q2, q3⟩ := hO
    obtain ⟨p1, p2, p3⟩ := hO'
    have ea : a = a' := (nI_eq (by omega) (by omega)).mp ((h2 (by decide)).symm.trans (h2' (by decide)))
    have eb : b = b' := (nI_eq (by omega) (by omega)).mp ((h3 (by decide)).symm.trans (h3' (by decide)))
    subst ea; subst eb; rfl
  · have q : a ≤ 12 := hO
    have p : a' ≤ 12 := hO'
    have ea : a = a' := (nI_eq (by omega) (by omega)).mp ((h2 (by decide)).symm.trans (h2' (by decide)))
    subst ea; funext l; rw [samp_3, samp_3]
  · have q : a ≤ 12 := hO
    have p : a' ≤ 12 := hO'
    have ea : a = a' := (nI_eq (by omega) (by omega)).mp ((h2 (by decide)).symm.trans (h2' (by decide)))
    subst ea; funext l; rw [samp_4, samp_4]
  · have ea : a = a' := (nI_eq (by have := hO.2; omega) (by have := hO'.2; omega)).mp ((h2 (by decide)).symm.trans (h2' (by decide)))
    subst ea; funext l; rw [samp_5, samp_5]
  · obtain ⟨q1, q2, q3⟩ := hO
    obtain ⟨p1, p2, p3⟩ := hO'
    have ea : a = a' := (nI_eq (by omega) (by omega)).mp ((h2 (by decide)).symm.trans (h2' (by decide)))
    have eb : b = b' := (nI_eq (by omega) (by omega)).mp ((h3 (by decide)).symm.trans (h3' (by decide)))
    subst ea; subst eb; rfl
  · funext l; rw [samp_7, samp_7]
