theorem okX_uni {x1 x2 x3 : Int32} {w : Nat → Nat} {k a b k' a' b' : Nat} (h : okX x1 x2 x3 w k a b) (h' : okX x1 x2 x3 w k' a' b') : samp k a b w = samp k' a' b' w := by
  obtain ⟨hk, e1, hO, h2, h3⟩ := h
  obtain ⟨hk', e1', hO', h2', h3'⟩ := h'
  have e : k = k' := (nI_eq (by omega) (by omega)).mp (e1.symm.trans e1')
  subst e
  rcases (show k = 0 ∨ k = 1 ∨ k = 2 ∨ k = 3 ∨ k = 4 ∨ k = 5 ∨ k = 6 ∨ k = 7 by omega) with rfl | rfl | rfl | rfl | rfl | rfl | rfl | rfl
  · have ea : a = a' := (nI_eq (by have := hO.2; omega) (by have := hO'.2; omega)).mp ((h2 (by decide)).symm.trans (h2' (by decide)))
    subst ea; rfl
  · have ea : a = a' := (nI_eq (by have := hO.2; omega) (by have := hO'.2; omega)).mp ((h2 (by decide)).symm.trans (h2' (by decide)))
    subst ea; rfl
  · obtain ⟨q1, q2, q3⟩ := hO
    obtain ⟨p1, p2, p3⟩ := hO'
    have ea : a = a' := (nI_eq (by omega) (by omega)).mp ((h2 (by decide)).symm.trans (h2' (by decide)))
    have eb : b = b' := (nI_eq (by omega) (by omega)).mp ((h3 (by decide)).symm.trans (h3' (by decide)))
    subst ea; subst eb; rfl
  · have q : a ≤ 12 := hO
    have p : a' ≤ 12 := hO'
    have ea : a = a' := (nI_eq (by omega) (by omega)).mp ((h2 (by decide)).symm.trans (h2' (by decide)))
    subst ea; rfl
  · have q : a ≤ 12 := hO
    have p : a' ≤ 12 := hO'
    have ea : a = a' := (nI_eq (by omega) (by omega)).mp ((h2 (by decide)).symm.trans (h2' (by decide)))
    subst ea; rfl
  · have ea : a = a' := (nI_eq (by have := hO.2; omega) (by have := hO'.2; omega)).mp ((h2 (by decide)).symm.trans (h2' (by decide)))
    subst ea; rfl
  · obtain ⟨q1, q2, q3⟩ := hO
    obtain ⟨p1, p2, p3⟩ := hO'
    have ea : a = a' := (nI_eq (by omega) (by omega)).mp ((h2 (by decide)).symm.trans (h2' (by decide)))
    have eb : b = b' := (nI_eq (by omega) (by omega)).mp ((h3 (by decide)).symm.trans (h3' (by decide)))
    subst ea; subst eb; rfl
  · rfl
