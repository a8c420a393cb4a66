def wp_C_isWithin (post : Int32 → Prop) (x0 : Int32) (x1 : Int32) (x2 : Int32) : Prop :=
  ((x0 < x1 → post (nI 0)) ∧ (¬ x0 < x1 → ((x2 < x0 → post (nI 0)) ∧ (¬ x2 < x0 → post (nI 1)))))
abbrev rm_C_isWithin : Room := { frames := 0, cells := 0, slots := 0, locals := 0 }
theorem mf_C_isWithin : gFS y_C_isWithin b_C_isWithin 3 (some .boolean) 3 := ⟨w_80, w_1, ⟨by decide, by decide, by decide +kernel⟩, w_79⟩
set_option maxHeartbeats 4000000 in
set_option maxRecDepth 100000 in
theorem c_C_isWithin (l : Launch) (D : va_G) (cI : ClassId) (x0 : Int32) (x1 : Int32) (x2 : Int32) (post : Int32 → Prop) (hw : wp_C_isWithin post x0 x1 x2) :
    gMi l D [(cI, .int)] y_C_isWithin b_C_isWithin 3 .boolean rm_C_isWithin [.int x0, .int x1, .int x2] [] (S := Unit) (fun u => []) (fun r u => post r) := by
  rw [wp_C_isWithin] at hw
  refine gMi.of (by decide) (Nat.le_of_ble_eq_true rfl) (fun p e s m args below meth c A Q ls hx hb hml hown hts hN hK hA hP hD hret hl => ?_)
  have fx : CallFix p m c b_C_isWithin 3 s args gG "TapeCounter" := ⟨hx, hb, hml, hown, hts⟩
  have hl : lv_has ls 3 [(0, .int x0), (1, .int x1), (2, .int x2)] := hl
  have hS : va_S A s.heap s.heap [] := va_S.rf
  refine lv_iload_n hx hb d_C_isWithin_0 rfl (lv_at hl 0 rfl) ?_
  refine lv_iload_n hx hb d_C_isWithin_1 rfl (lv_at hl 1 rfl) ?_
  refine lv_icmp_lt (tgt := 14) hx hb d_C_isWithin_2 (by decide) (fun c2 => ?_) (fun c2 => ?_)
  · have hw := hw.1 c2
    refine lv_iconst (v := (nI 0)) hx hb d_C_isWithin_14 (by decide) ?_
    exact hret _ _ _ () _ _ hw rfl hP hD hS d_C_isWithin_15
  · have hw := hw.2 c2
    refine lv_iload_n hx hb d_C_isWithin_5 rfl (lv_at hl 0 rfl) ?_
    refine lv_iload_n hx hb d_C_isWithin_6 rfl (lv_at hl 2 rfl) ?_
    refine lv_icmp_gt (tgt := 14) hx hb d_C_isWithin_7 (by decide) (fun c7 => ?_) (fun c7 => ?_)
    · have hw := hw.1 c7
      refine lv_iconst (v := (nI 0)) hx hb d_C_isWithin_14 (by decide) ?_
      exact hret _ _ _ () _ _ hw rfl hP hD hS d_C_isWithin_15
    · have hw := hw.2 c7
      refine lv_iconst (v := (nI 1)) hx hb d_C_isWithin_10 (by decide) ?_
      refine lv_goto (tgt := 15) hx hb d_C_isWithin_11 (by decide) ?_
      exact hret _ _ _ () _ _ hw rfl hP hD hS d_C_isWithin_15
def wpF_C_bitsFor_2 (post : Int32 → Prop) (x0 : Int32) (K_2 : Int32 → Prop) (x1 : Int32) : Prop :=
  (((nI 6) ≤ x1 → post x1) ∧ (¬ (nI 6) ≤ x1 → ((x0 ≤ ((nI 1) <<< (x1 &&& 31)) → post x1) ∧ (¬ x0 ≤ ((nI 1) <<< (x1 &&& 31)) → K_2 (x1 + (nI 1))))))
def wp_C_bitsFor (post : Int32 → Prop) (x0 : Int32) : Prop :=
  (∃ n, gL1 (wpF_C_bitsFor_2 post x0) n (nI 0))
abbrev rm_C_bitsFor : Room := { frames := 0, cells := 0, slots := 0, locals := 0 }
theorem mf_C_bitsFor : gFS y_C_bitsFor b_C_bitsFor 2 (some .int) 1 := ⟨w_127, w_1, ⟨by decide, by decide, by decide +kernel⟩, w_126⟩
set_option maxHeartbeats 4000000 in
set_option maxRecDepth 100000 in
theorem c_C_bitsFor (l : Launch) (D : va_G) (cI : ClassId) (x0 : Int32) (post : Int32 → Prop) (hw : wp_C_bitsFor post x0) :
    gMi l D [(cI, .int)] y_C_bitsFor b_C_bitsFor 2 .int rm_C_bitsFor [.int x0] [] (S := Unit) (fun u => []) (fun r u => post r) := by
  rw [wp_C_bitsFor] at hw
  refine gMi.of (by decide) (Nat.le_of_ble_eq_true rfl) (fun p e s m args below meth c A Q ls hx hb hml hown hts hN hK hA hP hD hret hl => ?_)
  have fx : CallFix p m c b_C_bitsFor 2 s args gG "TapeCounter" := ⟨hx, hb, hml, hown, hts⟩
  have hl : lv_has ls 2 [(0, .int x0)] := hl
  have hS : va_S A s.heap s.heap [] := va_S.rf
  refine lv_iconst (v := (nI 0)) hx hb d_C_bitsFor_0 (by decide) ?_
  refine lv_istore_n (lv' := [(1, .int (nI 0)), (0, .int x0)]) hx hb d_C_bitsFor_1 rfl hl (by decide) rfl (fun ls hl => ?_)
  obtain ⟨n_2, hw⟩ := hw
  have k_2 : ∀ (n_2 : Nat) (x1 : Int32), gL1 (wpF_C_bitsFor_2 post x0) n_2 x1 → ∀ (H : Heap) (locs : List Loc) (ls : Array Slot), va_P D gCl [] H → va_D A [] → va_S A s.heap H locs → lv_has ls 2 [(1, .int x1), (0, .int x0)] → W p l e rm_C_bitsFor s m args below meth c H locs 0 0 Q (F0 m 2 ls []) := by
    clear hw hP hD hS hl
    intro n_2
    induction n_2 with
    | zero => exact fun _ h => h.elim
    | succ n_2 ih_2 =>
      intro x1 hw H locs ls hP hD hS hl
      have hw : wpF_C_bitsFor_2 post x0 (gL1 (wpF_C_bitsFor_2 post x0) n_2) x1 := hw
      rw [wpF_C_bitsFor_2] at hw
      refine lv_iload_n hx hb d_C_bitsFor_2 rfl (lv_at hl 0 rfl) ?_
      refine lv_bipush (v := (nI 6)) hx hb d_C_bitsFor_3 (by decide) ?_
      refine lv_icmp_ge (tgt := 21) hx hb d_C_bitsFor_5 (by decide) (fun c5 => ?_) (fun c5 => ?_)
      · have hw := hw.1 c5
        refine lv_iload_n hx hb d_C_bitsFor_21 rfl (lv_at hl 0 rfl) ?_
        exact hret _ _ _ () _ _ hw rfl hP hD hS d_C_bitsFor_22
      · have hw := hw.2 c5
        refine lv_iconst (v := (nI 1)) hx hb d_C_bitsFor_8 (by decide) ?_
        refine lv_iload_n hx hb d_C_bitsFor_9 rfl (lv_at hl 0 rfl) ?_
        refine lv_ishl hx hb d_C_bitsFor_10 ?_
        refine lv_iload_n hx hb d_C_bitsFor_11 rfl (lv_at hl 1 rfl) ?_
        refine lv_icmp_ge (tgt := 21) hx hb d_C_bitsFor_12 (by decide) (fun c12 => ?_) (fun c12 => ?_)
        · have hw := hw.1 c12
          refine lv_iload_n hx hb d_C_bitsFor_21 rfl (lv_at hl 0 rfl) ?_
          exact hret _ _ _ () _ _ hw rfl hP hD hS d_C_bitsFor_22
        · have hw := hw.2 c12
          refine lv_iinc (v := (x1 + (nI 1))) (lv' := [(1, .int (x1 + (nI 1))), (0, .int x0)]) hx hb d_C_bitsFor_15 hl (k := 0) rfl rfl (by decide) rfl (fun ls hl => ?_)
          refine lv_goto (tgt := 2) hx hb d_C_bitsFor_18 (by decide) ?_
          exact ih_2 _ hw _ _ _ hP hD hS (lv_sub hl [0, 1] rfl)
  exact k_2 n_2 _ hw _ _ _ hP hD hS (lv_sub hl [0, 1] rfl)
def wpF_C_plain_7 (post : Int32 → Int32 → Prop) (Nb : Nat) (t_size : Int32) (vb : Nat → Int32) (x1 : Int32) (x2 : Int32) (K_7 : Int32 → Int32 → Prop) (t_at : Int32) (x3 : Int32) : Prop :=
  (((nI 256) < x3 → post (-1) t_at) ∧ (¬ (nI 256) < x3 → wp_T_readNumber (fun r_2 tat_3 => ((r_2 = (-1) → post r_2 tat_3) ∧ (¬ r_2 = (-1) → ((x1 ≤ r_2 → K_7 tat_3 (x3 + (nI 1))) ∧ (¬ x1 ≤ r_2 → post r_2 tat_3))))) Nb t_size t_at vb x2))
def wp_C_plain (post : Int32 → Int32 → Prop) (Nb : Nat) (t_size : Int32) (t_at : Int32) (vb : Nat → Int32) (x1 : Int32) : Prop :=
  wp_C_bitsFor (fun r_1 => (∃ n, gL2 (wpF_C_plain_7 post Nb t_size vb x1 r_1) n t_at (nI 0))) x1
abbrev rm_C_plain : Room := { frames := 2, cells := 0, slots := 0, locals := 45 }
theorem mf_C_plain : gFS y_C_plain b_C_plain 5 (some .int) 2 := ⟨w_124, w_1, ⟨by decide, by decide, by decide +kernel⟩, w_123⟩
set_option maxHeartbeats 4000000 in
set_option maxRecDepth 100000 in
theorem c_C_plain (l : Launch) (D : va_G) (cI : ClassId) (h_t : Nat) (h_b : Nat) (Nb : Nat) (t_size : Int32) (t_at : Int32) (vb : Nat → Int32) (x1 : Int32) (post : Int32 → Int32 → Prop) (hw : wp_C_plain post Nb t_size t_at vb x1) :
    gMi l D [(cI, .int)] y_C_plain b_C_plain 5 .int rm_C_plain [.ref h_t, .int x1] [(h_t, .inr (1, [.ref h_b, .int t_size, .int t_at])), (h_b, .inl (cI, Nb, .inl vb))] (S := Int32) (fun u => [(h_t, .inr (1, [.ref h_b, .int t_size, .int u])), (h_b, .inl (cI, Nb, .inl vb))]) (fun r u => post r u) := by
  rw [wp_C_plain] at hw
  refine gMi.of (by decide) (Nat.le_of_ble_eq_true rfl) (fun p e s m args below meth c A Q ls hx hb hml hown hts hN hK hA hP hD hret hl => ?_)
  have fx : CallFix p m c b_C_plain 5 s args gG "TapeCounter" := ⟨hx, hb, hml, hown, hts⟩
  have hl : lv_has ls 5 [(0, .ref h_t), (1, .int x1)] := hl
  have hS : va_S A s.heap s.heap [] := va_S.rf
  refine lv_iload_n hx hb d_C_plain_0 rfl (lv_at hl 1 rfl) ?_
  refine g_cSi (wr := [(h_t, .inr (1, [.ref h_b, .int t_size, .int t_at])), (h_b, .inl (cI, Nb, .inl vb))]) fx (c_C_bitsFor l D cI  x1 _ hw) mf_C_bitsFor w_125 ⟨rfl, rfl⟩ ⟨Nat.le_of_ble_eq_true rfl, Nat.le_of_ble_eq_true rfl⟩ hN hK hA hP hD hS [] [0, 1] rfl rfl rfl rfl (by decide) rfl rfl hl.1 (Nat.le_of_ble_eq_true rfl) d_C_plain_1 ⟨Nat.zero_le _, Nat.zero_le _⟩ (fun r_1 u H locs hw hP hD hS => ?_)
  try dsimp only at hw
  have hP : va_P D gCl [(h_t, .inr (1, [.ref h_b, .int t_size, .int t_at])), (h_b, .inl (cI, Nb, .inl vb))] H := hP
  have hD : va_D A [(h_t, .inr (1, [.ref h_b, .int t_size, .int t_at])), (h_b, .inl (cI, Nb, .inl vb))] := hD
  refine lv_istore_n (lv' := [(2, .int r_1), (0, .ref h_t), (1, .int x1)]) hx hb d_C_plain_4 rfl hl (by decide) rfl (fun ls hl => ?_)
  refine lv_iconst (v := (nI 0)) hx hb d_C_plain_5 (by decide) ?_
  refine lv_istore_n (lv' := [(3, .int (nI 0)), (2, .int r_1), (0, .ref h_t), (1, .int x1)]) hx hb d_C_plain_6 rfl hl (by decide) rfl (fun ls hl => ?_)
  obtain ⟨n_7, hw⟩ := hw
  have k_7 : ∀ (x2 : Int32) (n_7 : Nat) (t_at : Int32) (x3 : Int32), gL2 (wpF_C_plain_7 post Nb t_size vb x1 x2) n_7 t_at x3 → ∀ (H : Heap) (locs : List Loc) (ls : Array Slot), va_P D gCl [(h_t, .inr (1, [.ref h_b, .int t_size, .int t_at])), (h_b, .inl (cI, Nb, .inl vb))] H → va_D A [(h_t, .inr (1, [.ref h_b, .int t_size, .int t_at])), (h_b, .inl (cI, Nb, .inl vb))] → va_S A s.heap H locs → lv_has ls 5 [(3, .int x3), (2, .int x2), (0, .ref h_t), (1, .int x1)] → W p l e rm_C_plain s m args below meth c H locs 0 0 Q (F0 m 7 ls []) := by
    clear hw hP hD hS hl
    intro x2 n_7
    induction n_7 with
    | zero => exact fun _ _ h => h.elim
    | succ n_7 ih_7 =>
      intro t_at x3 hw H locs ls hP hD hS hl
      have hw : wpF_C_plain_7 post Nb t_size vb x1 x2 (gL2 (wpF_C_plain_7 post Nb t_size vb x1 x2) n_7) t_at x3 := hw
      rw [wpF_C_plain_7] at hw
      refine lv_iload_n hx hb d_C_plain_7 rfl (lv_at hl 0 rfl) ?_
      refine lv_sipush (v := (nI 256)) hx hb d_C_plain_8 (by decide) ?_
      refine lv_icmp_gt (tgt := 42) hx hb d_C_plain_11 (by decide) (fun c11 => ?_) (fun c11 => ?_)
      · have hw := hw.1 c11
        refine lv_iconst (v := (-1)) hx hb d_C_plain_42 (by decide) ?_
        exact hret _ _ _ t_at _ _ hw rfl hP hD hS d_C_plain_43
      · have hw := hw.2 c11
        refine lv_aload_n hx hb d_C_plain_14 rfl (lv_at hl 2 rfl) ?_
        refine lv_iload_n hx hb d_C_plain_15 rfl (lv_at hl 1 rfl) ?_
        refine g_cVi (wr := []) fx (c_T_readNumber l D cI h_t h_b Nb t_size t_at vb x2 _ hw) mf_T_readNumber w_128 ⟨rfl, rfl⟩ ⟨Nat.le_of_ble_eq_true rfl, Nat.le_of_ble_eq_true rfl⟩ hN hK hA hP hD hS [0, 1] [] rfl rfl rfl rfl (by decide) 0 rfl rfl rfl rfl hl.1 (Nat.le_of_ble_eq_true rfl) d_C_plain_16 ⟨Nat.zero_le _, Nat.zero_le _⟩ (fun r_2 u H locs hw hP hD hS => ?_)
        obtain ⟨tat_3, rfl⟩ : ∃ z, z = u := ⟨_, rfl⟩
        try dsimp only at hw
        have hP : va_P D gCl [(h_t, .inr (1, [.ref h_b, .int t_size, .int tat_3])), (h_b, .inl (cI, Nb, .inl vb))] H := hP
        have hD : va_D A [(h_t, .inr (1, [.ref h_b, .int t_size, .int tat_3])), (h_b, .inl (cI, Nb, .inl vb))] := hD
        refine lv_istore (lv' := [(4, .int r_2), (3, .int x3), (2, .int x2), (0, .ref h_t), (1, .int x1)]) hx hb d_C_plain_19 hl (by decide) rfl (fun ls hl => ?_)
        refine lv_iload hx hb d_C_plain_21 (lv_at hl 0 rfl) ?_
        refine lv_iconst (v := (-1)) hx hb d_C_plain_23 (by decide) ?_
        refine lv_icmp_eq (tgt := 33) hx hb d_C_plain_24 (by decide) (fun c24 => ?_) (fun c24 => ?_)
        · have hw := hw.1 c24
          refine lv_iload hx hb d_C_plain_33 (lv_at hl 0 rfl) ?_
          exact hret _ _ _ tat_3 _ _ hw rfl hP hD hS d_C_plain_35
        · have hw := hw.2 c24
          refine lv_iload hx hb d_C_plain_27 (lv_at hl 0 rfl) ?_
          refine lv_iload_n hx hb d_C_plain_29 rfl (lv_at hl 4 rfl) ?_
          refine lv_icmp_ge (tgt := 36) hx hb d_C_plain_30 (by decide) (fun c30 => ?_) (fun c30 => ?_)
          · have hw := hw.1 c30
            refine lv_iinc (v := (x3 + (nI 1))) (lv' := [(3, .int (x3 + (nI 1))), (4, .int r_2), (2, .int x2), (0, .ref h_t), (1, .int x1)]) hx hb d_C_plain_36 hl (k := 1) rfl rfl (by decide) rfl (fun ls hl => ?_)
            refine lv_goto (tgt := 7) hx hb d_C_plain_39 (by decide) ?_
            exact ih_7 _ _ hw _ _ _ hP hD hS (lv_sub hl [0, 2, 3, 4] rfl)
          · have hw := hw.2 c30
            refine lv_iload hx hb d_C_plain_33 (lv_at hl 0 rfl) ?_
            exact hret _ _ _ tat_3 _ _ hw rfl hP hD hS d_C_plain_35
  exact k_7 r_1 n_7 _ _ hw _ _ _ hP hD hS (lv_sub hl [0, 1, 2, 3] rfl)
def wpF_C_thrifty_7 (post : Int32 → Int32 → Prop) (Nb : Nat) (t_size : Int32) (vb : Nat → Int32) (x1 : Int32) (K_7 : Int32 → Int32 → Int32 → Int32 → Prop) (t_at : Int32) (x2 : Int32) (x3 : Int32) (x4 : Int32) : Prop :=
  (((nI 256) < x4 → post (-1) t_at) ∧ (¬ (nI 256) < x4 → ((x2 < x1 → wp_T_readBit (fun r_1 tat_2 => ((¬ r_1 = (-1) → K_7 tat_2 ((nI 2) * x2) (((nI 2) * x3) + r_1) (x4 + (nI 1))) ∧ (r_1 = (-1) → post (-1) tat_2))) Nb t_size t_at vb) ∧ (¬ x2 < x1 → ((x1 ≤ x3 → wp_T_readBit (fun r_3 tat_4 => ((¬ r_3 = (-1) → K_7 tat_4 ((nI 2) * (x2 - x1)) (((nI 2) * (x3 - x1)) + r_3) (x4 + (nI 1))) ∧ (r_3 = (-1) → post (-1) tat_4))) Nb t_size t_at vb) ∧ (¬ x1 ≤ x3 → post x3 t_at))))))
def wp_C_thrifty (post : Int32 → Int32 → Prop) (Nb : Nat) (t_size : Int32) (t_at : Int32) (vb : Nat → Int32) (x1 : Int32) : Prop :=
  (∃ n, gL4 (wpF_C_thrifty_7 post Nb t_size vb x1) n t_at (nI 1) (nI 0) (nI 0))
abbrev rm_C_thrifty : Room := { frames := 1, cells := 0, slots := 0, locals := 21 }
theorem mf_C_thrifty : gFS y_C_thrifty b_C_thrifty 6 (some .int) 2 := ⟨w_138, w_1, ⟨by decide, by decide, by decide +kernel⟩, w_137⟩
set_option maxHeartbeats 4000000 in
set_option maxRecDepth 100000 in
theorem c_C_thrifty (l : Launch) (D : va_G) (cI : ClassId) (h_t : Nat) (h_b : Nat) (Nb : Nat) (t_size : Int32) (t_at : Int32) (vb : Nat → Int32) (x1 : Int32) (post : Int32 → Int32 → Prop) (hw : wp_C_thrifty post Nb t_size t_at vb x1) :
    gMi l D [(cI, .int)] y_C_thrifty b_C_thrifty 6 .int rm_C_thrifty [.ref h_t, .int x1] [(h_t, .inr (1, [.ref h_b, .int t_size, .int t_at])), (h_b, .inl (cI, Nb, .inl vb))] (S := Int32) (fun u => [(h_t, .inr (1, [.ref h_b, .int t_size, .int u])), (h_b, .inl (cI, Nb, .inl vb))]) (fun r u => post r u) := by
  rw [wp_C_thrifty] at hw
  refine gMi.of (by decide) (Nat.le_of_ble_eq_true rfl) (fun p e s m args below meth c A Q ls hx hb hml hown hts hN hK hA hP hD hret hl => ?_)
  have fx : CallFix p m c b_C_thrifty 6 s args gG "TapeCounter" := ⟨hx, hb, hml, hown, hts⟩
  have hl : lv_has ls 6 [(0, .ref h_t), (1, .int x1)] := hl
  have hS : va_S A s.heap s.heap [] := va_S.rf
  refine lv_iconst (v := (nI 1)) hx hb d_C_thrifty_0 (by decide) ?_
  refine lv_istore_n (lv' := [(2, .int (nI 1)), (0, .ref h_t), (1, .int x1)]) hx hb d_C_thrifty_1 rfl hl (by decide) rfl (fun ls hl => ?_)
  refine lv_iconst (v := (nI 0)) hx hb d_C_thrifty_2 (by decide) ?_
  refine lv_istore_n (lv' := [(3, .int (nI 0)), (2, .int (nI 1)), (0, .ref h_t), (1, .int x1)]) hx hb d_C_thrifty_3 rfl hl (by decide) rfl (fun ls hl => ?_)
  refine lv_iconst (v := (nI 0)) hx hb d_C_thrifty_4 (by decide) ?_
  refine lv_istore (lv' := [(4, .int (nI 0)), (3, .int (nI 0)), (2, .int (nI 1)), (0, .ref h_t), (1, .int x1)]) hx hb d_C_thrifty_5 hl (by decide) rfl (fun ls hl => ?_)
  obtain ⟨n_7, hw⟩ := hw
  have k_7 : ∀ (n_7 : Nat) (t_at : Int32) (x2 : Int32) (x3 : Int32) (x4 : Int32), gL4 (wpF_C_thrifty_7 post Nb t_size vb x1) n_7 t_at x2 x3 x4 → ∀ (H : Heap) (locs : List Loc) (ls : Array Slot), va_P D gCl [(h_t, .inr (1, [.ref h_b, .int t_size, .int t_at])), (h_b, .inl (cI, Nb, .inl vb))] H → va_D A [(h_t, .inr (1, [.ref h_b, .int t_size, .int t_at])), (h_b, .inl (cI, Nb, .inl vb))] → va_S A s.heap H locs → lv_has ls 6 [(4, .int x4), (3, .int x3), (2, .int x2), (0, .ref h_t), (1, .int x1)] → W p l e rm_C_thrifty s m args below meth c H locs 0 0 Q (F0 m 7 ls []) := by
    clear hw hP hD hS hl
    intro n_7
    induction n_7 with
    | zero => exact fun _ _ _ _ h => h.elim
    | succ n_7 ih_7 =>
      intro t_at x2 x3 x4 hw H locs ls hP hD hS hl
      have hw : wpF_C_thrifty_7 post Nb t_size vb x1 (gL4 (wpF_C_thrifty_7 post Nb t_size vb x1) n_7) t_at x2 x3 x4 := hw
      rw [wpF_C_thrifty_7] at hw
      refine lv_iload hx hb d_C_thrifty_7 (lv_at hl 0 rfl) ?_
      refine lv_sipush (v := (nI 256)) hx hb d_C_thrifty_9 (by decide) ?_
      refine lv_icmp_gt (tgt := 66) hx hb d_C_thrifty_12 (by decide) (fun c12 => ?_) (fun c12 => ?_)
      · have hw := hw.1 c12
        refine lv_iconst (v := (-1)) hx hb d_C_thrifty_66 (by decide) ?_
        exact hret _ _ _ t_at _ _ hw rfl hP hD hS d_C_thrifty_67
      · have hw := hw.2 c12
        refine lv_iload_n hx hb d_C_thrifty_15 rfl (lv_at hl 2 rfl) ?_
        refine lv_iload_n hx hb d_C_thrifty_16 rfl (lv_at hl 4 rfl) ?_
        refine lv_icmp_lt (tgt := 35) hx hb d_C_thrifty_17 (by decide) (fun c17 => ?_) (fun c17 => ?_)
        · have hw := hw.1 c17
          refine lv_aload_n hx hb d_C_thrifty_35 rfl (lv_at hl 3 rfl) ?_
          refine g_cVi (wr := []) fx (c_T_readBit l D cI h_t h_b Nb t_size t_at vb _ hw) mf_T_readBit w_139 ⟨rfl, rfl⟩ ⟨Nat.le_of_ble_eq_true rfl, Nat.le_of_ble_eq_true rfl⟩ hN hK hA hP hD hS [0, 1] [] rfl rfl rfl rfl (by decide) 0 rfl rfl rfl rfl hl.1 (Nat.le_of_ble_eq_true rfl) d_C_thrifty_36 ⟨Nat.zero_le _, Nat.zero_le _⟩ (fun r_1 u H locs hw hP hD hS => ?_)
          obtain ⟨tat_2, rfl⟩ : ∃ z, z = u := ⟨_, rfl⟩
          try dsimp only at hw
          have hP : va_P D gCl [(h_t, .inr (1, [.ref h_b, .int t_size, .int tat_2])), (h_b, .inl (cI, Nb, .inl vb))] H := hP
          have hD : va_D A [(h_t, .inr (1, [.ref h_b, .int t_size, .int tat_2])), (h_b, .inl (cI, Nb, .inl vb))] := hD
          refine lv_istore (lv' := [(5, .int r_1), (4, .int x4), (3, .int x3), (2, .int x2), (0, .ref h_t), (1, .int x1)]) hx hb d_C_thrifty_39 hl (by decide) rfl (fun ls hl => ?_)
          refine lv_iload hx hb d_C_thrifty_41 (lv_at hl 0 rfl) ?_
          refine lv_iconst (v := (-1)) hx hb d_C_thrifty_43 (by decide) ?_
          refine lv_icmp_ne (tgt := 49) hx hb d_C_thrifty_44 (by decide) (fun c44 => ?_) (fun c44 => ?_)
          · have hw := hw.1 c44
            refine lv_iconst (v := (nI 2)) hx hb d_C_thrifty_49 (by decide) ?_
            refine lv_iload_n hx hb d_C_thrifty_50 rfl (lv_at hl 3 rfl) ?_
            refine lv_imul hx hb d_C_thrifty_51 ?_
            refine lv_istore_n (lv' := [(2, .int ((nI 2) * x2)), (5, .int r_1), (4, .int x4), (3, .int x3), (0, .ref h_t), (1, .int x1)]) hx hb d_C_thrifty_52 rfl hl (by decide) rfl (fun ls hl => ?_)
            refine lv_iconst (v := (nI 2)) hx hb d_C_thrifty_53 (by decide) ?_
            refine lv_iload_n hx hb d_C_thrifty_54 rfl (lv_at hl 3 rfl) ?_
            refine lv_imul hx hb d_C_thrifty_55 ?_
            refine lv_iload hx hb d_C_thrifty_56 (lv_at hl 1 rfl) ?_
            refine lv_iadd hx hb d_C_thrifty_58 ?_
            refine lv_istore_n (lv' := [(3, .int (((nI 2) * x3) + r_1)), (2, .int ((nI 2) * x2)), (5, .int r_1), (4, .int x4), (0, .ref h_t), (1, .int x1)]) hx hb d_C_thrifty_59 rfl hl (by decide) rfl (fun ls hl => ?_)
            refine lv_iinc (v := (x4 + (nI 1))) (lv' := [(4, .int (x4 + (nI 1))), (3, .int (((nI 2) * x3) + r_1)), (2, .int ((nI 2) * x2)), (5, .int r_1), (0, .ref h_t), (1, .int x1)]) hx hb d_C_thrifty_60 hl (k := 3) rfl rfl (by decide) rfl (fun ls hl => ?_)
            refine lv_goto (tgt := 7) hx hb d_C_thrifty_63 (by decide) ?_
            exact ih_7 _ _ _ _ hw _ _ _ hP hD hS (lv_sub hl [0, 1, 2, 4, 5] rfl)
          · have hw := hw.2 c44
            refine lv_iconst (v := (-1)) hx hb d_C_thrifty_47 (by decide) ?_
            exact hret _ _ _ tat_2 _ _ hw rfl hP hD hS d_C_thrifty_48
        · have hw := hw.2 c17
          refine lv_iload_n hx hb d_C_thrifty_20 rfl (lv_at hl 1 rfl) ?_
          refine lv_iload_n hx hb d_C_thrifty_21 rfl (lv_at hl 4 rfl) ?_
          refine lv_icmp_ge (tgt := 27) hx hb d_C_thrifty_22 (by decide) (fun c22 => ?_) (fun c22 => ?_)
          · have hw := hw.1 c22
            refine lv_iload_n hx hb d_C_thrifty_27 rfl (lv_at hl 2 rfl) ?_
            refine lv_iload_n hx hb d_C_thrifty_28 rfl (lv_at hl 4 rfl) ?_
            refine lv_isub hx hb d_C_thrifty_29 ?_
            refine lv_istore_n (lv' := [(2, .int (x2 - x1)), (4, .int x4), (3, .int x3), (0, .ref h_t), (1, .int x1)]) hx hb d_C_thrifty_30 rfl hl (by decide) rfl (fun ls hl => ?_)
            refine lv_iload_n hx hb d_C_thrifty_31 rfl (lv_at hl 2 rfl) ?_
            refine lv_iload_n hx hb d_C_thrifty_32 rfl (lv_at hl 4 rfl) ?_
            refine lv_isub hx hb d_C_thrifty_33 ?_
            refine lv_istore_n (lv' := [(3, .int (x3 - x1)), (2, .int (x2 - x1)), (4, .int x4), (0, .ref h_t), (1, .int x1)]) hx hb d_C_thrifty_34 rfl hl (by decide) rfl (fun ls hl => ?_)
            refine lv_aload_n hx hb d_C_thrifty_35 rfl (lv_at hl 3 rfl) ?_
            refine g_cVi (wr := []) fx (c_T_readBit l D cI h_t h_b Nb t_size t_at vb _ hw) mf_T_readBit w_139 ⟨rfl, rfl⟩ ⟨Nat.le_of_ble_eq_true rfl, Nat.le_of_ble_eq_true rfl⟩ hN hK hA hP hD hS [0, 1] [] rfl rfl rfl rfl (by decide) 0 rfl rfl rfl rfl hl.1 (Nat.le_of_ble_eq_true rfl) d_C_thrifty_36 ⟨Nat.zero_le _, Nat.zero_le _⟩ (fun r_3 u H locs hw hP hD hS => ?_)
            obtain ⟨tat_4, rfl⟩ : ∃ z, z = u := ⟨_, rfl⟩
            try dsimp only at hw
            have hP : va_P D gCl [(h_t, .inr (1, [.ref h_b, .int t_size, .int tat_4])), (h_b, .inl (cI, Nb, .inl vb))] H := hP
            have hD : va_D A [(h_t, .inr (1, [.ref h_b, .int t_size, .int tat_4])), (h_b, .inl (cI, Nb, .inl vb))] := hD
            refine lv_istore (lv' := [(5, .int r_3), (3, .int (x3 - x1)), (2, .int (x2 - x1)), (4, .int x4), (0, .ref h_t), (1, .int x1)]) hx hb d_C_thrifty_39 hl (by decide) rfl (fun ls hl => ?_)
            refine lv_iload hx hb d_C_thrifty_41 (lv_at hl 0 rfl) ?_
            refine lv_iconst (v := (-1)) hx hb d_C_thrifty_43 (by decide) ?_
            refine lv_icmp_ne (tgt := 49) hx hb d_C_thrifty_44 (by decide) (fun c44 => ?_) (fun c44 => ?_)
            · have hw := hw.1 c44
              refine lv_iconst (v := (nI 2)) hx hb d_C_thrifty_49 (by decide) ?_
              refine lv_iload_n hx hb d_C_thrifty_50 rfl (lv_at hl 2 rfl) ?_
              refine lv_imul hx hb d_C_thrifty_51 ?_
              refine lv_istore_n (lv' := [(2, .int ((nI 2) * (x2 - x1))), (5, .int r_3), (3, .int (x3 - x1)), (4, .int x4), (0, .ref h_t), (1, .int x1)]) hx hb d_C_thrifty_52 rfl hl (by decide) rfl (fun ls hl => ?_)
              refine lv_iconst (v := (nI 2)) hx hb d_C_thrifty_53 (by decide) ?_
              refine lv_iload_n hx hb d_C_thrifty_54 rfl (lv_at hl 2 rfl) ?_
              refine lv_imul hx hb d_C_thrifty_55 ?_
              refine lv_iload hx hb d_C_thrifty_56 (lv_at hl 1 rfl) ?_
              refine lv_iadd hx hb d_C_thrifty_58 ?_
              refine lv_istore_n (lv' := [(3, .int (((nI 2) * (x3 - x1)) + r_3)), (2, .int ((nI 2) * (x2 - x1))), (5, .int r_3), (4, .int x4), (0, .ref h_t), (1, .int x1)]) hx hb d_C_thrifty_59 rfl hl (by decide) rfl (fun ls hl => ?_)
              refine lv_iinc (v := (x4 + (nI 1))) (lv' := [(4, .int (x4 + (nI 1))), (3, .int (((nI 2) * (x3 - x1)) + r_3)), (2, .int ((nI 2) * (x2 - x1))), (5, .int r_3), (0, .ref h_t), (1, .int x1)]) hx hb d_C_thrifty_60 hl (k := 3) rfl rfl (by decide) rfl (fun ls hl => ?_)
              refine lv_goto (tgt := 7) hx hb d_C_thrifty_63 (by decide) ?_
              exact ih_7 _ _ _ _ hw _ _ _ hP hD hS (lv_sub hl [0, 1, 2, 4, 5] rfl)
            · have hw := hw.2 c44
              refine lv_iconst (v := (-1)) hx hb d_C_thrifty_47 (by decide) ?_
              exact hret _ _ _ tat_4 _ _ hw rfl hP hD hS d_C_thrifty_48
          · have hw := hw.2 c22
            refine lv_iload_n hx hb d_C_thrifty_25 rfl (lv_at hl 1 rfl) ?_
            exact hret _ _ _ t_at _ _ hw rfl hP hD hS d_C_thrifty_26
  exact k_7 n_7 _ _ _ _ hw _ _ _ hP hD hS (lv_sub hl [0, 1, 2, 3, 4] rfl)
def wpF_C_coin_5 (post : Int32 → Int32 → Prop) (Nb : Nat) (t_size : Int32) (vb : Nat → Int32) (x2 : Int32) (K_5 : Int32 → Int32 → Int32 → Prop) (t_at : Int32) (x3 : Int32) (x4 : Int32) : Prop :=
  (((nI 256) < x4 → post (-1) t_at) ∧ (¬ (nI 256) < x4 → ((¬ x3 = 0 → ((¬ x3 = x2 → wp_T_readBit (fun r_1 tat_2 => ((¬ r_1 = (-1) → ((((nI 2) * x3) < x2 → ((¬ (nI 0) = (nI 1) → ((r_1 = (nI 0) → K_5 tat_2 ((nI 2) * x3) (x4 + (nI 1))) ∧ (¬ r_1 = (nI 0) → post (nI 0) tat_2))) ∧ ((nI 0) = (nI 1) → ((r_1 = (nI 0) → K_5 tat_2 (((nI 2) * x3) - x2) (x4 + (nI 1))) ∧ (¬ r_1 = (nI 0) → post (nI 0) tat_2))))) ∧ (¬ ((nI 2) * x3) < x2 → ((¬ (nI 1) = (nI 1) → ((r_1 = (nI 1) → K_5 tat_2 ((nI 2) * x3) (x4 + (nI 1))) ∧ (¬ r_1 = (nI 1) → post (nI 1) tat_2))) ∧ ((nI 1) = (nI 1) → ((r_1 = (nI 1) → K_5 tat_2 (((nI 2) * x3) - x2) (x4 + (nI 1))) ∧ (¬ r_1 = (nI 1) → post (nI 1) tat_2))))))) ∧ (r_1 = (-1) → post (-1) tat_2))) Nb t_size t_at vb) ∧ (x3 = x2 → post (nI 1) t_at))) ∧ (x3 = 0 → post (nI 0) t_at))))
def wp_C_coin (post : Int32 → Int32 → Prop) (Nb : Nat) (t_size : Int32) (t_at : Int32) (vb : Nat → Int32) (x1 : Int32) (x2 : Int32) : Prop :=
  (∃ n, gL3 (wpF_C_coin_5 post Nb t_size vb x2) n t_at x1 (nI 0))
abbrev rm_C_coin : Room := { frames := 1, cells := 0, slots := 0, locals := 21 }
theorem mf_C_coin : gFS y_C_coin b_C_coin 7 (some .int) 3 := ⟨w_142, w_1, ⟨by decide, by decide, by decide +kernel⟩, w_141⟩
set_option maxHeartbeats 4000000 in
set_option maxRecDepth 100000 in
theorem c_C_coin (l : Launch) (D : va_G) (cI : ClassId) (h_t : Nat) (h_b : Nat) (Nb : Nat) (t_size : Int32) (t_at : Int32) (vb : Nat → Int32) (x1 : Int32) (x2 : Int32) (post : Int32 → Int32 → Prop) (hw : wp_C_coin post Nb t_size t_at vb x1 x2) :
    gMi l D [(cI, .int)] y_C_coin b_C_coin 7 .int rm_C_coin [.ref h_t, .int x1, .int x2] [(h_t, .inr (1, [.ref h_b, .int t_size, .int t_at])), (h_b, .inl (cI, Nb, .inl vb))] (S := Int32) (fun u => [(h_t, .inr (1, [.ref h_b, .int t_size, .int u])), (h_b, .inl (cI, Nb, .inl vb))]) (fun r u => post r u) := by
  rw [wp_C_coin] at hw
  refine gMi.of (by decide) (Nat.le_of_ble_eq_true rfl) (fun p e s m args below meth c A Q ls hx hb hml hown hts hN hK hA hP hD hret hl => ?_)
  have fx : CallFix p m c b_C_coin 7 s args gG "TapeCounter" := ⟨hx, hb, hml, hown, hts⟩
  have hl : lv_has ls 7 [(0, .ref h_t), (1, .int x1), (2, .int x2)] := hl
  have hS : va_S A s.heap s.heap [] := va_S.rf
  refine lv_iload_n hx hb d_C_coin_0 rfl (lv_at hl 1 rfl) ?_
  refine lv_istore_n (lv' := [(3, .int x1), (0, .ref h_t), (1, .int x1), (2, .int x2)]) hx hb d_C_coin_1 rfl hl (by decide) rfl (fun ls hl => ?_)
  refine lv_iconst (v := (nI 0)) hx hb d_C_coin_2 (by decide) ?_
  refine lv_istore (lv' := [(4, .int (nI 0)), (3, .int x1), (0, .ref h_t), (1, .int x1), (2, .int x2)]) hx hb d_C_coin_3 hl (by decide) rfl (fun ls hl => ?_)
  obtain ⟨n_5, hw⟩ := hw
  have k_5 : ∀ (n_5 : Nat) (t_at : Int32) (x3 : Int32) (x4 : Int32), gL3 (wpF_C_coin_5 post Nb t_size vb x2) n_5 t_at x3 x4 → ∀ (H : Heap) (locs : List Loc) (ls : Array Slot), va_P D gCl [(h_t, .inr (1, [.ref h_b, .int t_size, .int t_at])), (h_b, .inl (cI, Nb, .inl vb))] H → va_D A [(h_t, .inr (1, [.ref h_b, .int t_size, .int t_at])), (h_b, .inl (cI, Nb, .inl vb))] → va_S A s.heap H locs → lv_has ls 7 [(4, .int x4), (3, .int x3), (0, .ref h_t), (2, .int x2)] → W p l e rm_C_coin s m args below meth c H locs 0 0 Q (F0 m 5 ls []) := by
    clear hw hP hD hS hl
    intro n_5
    induction n_5 with
    | zero => exact fun _ _ _ h => h.elim
    | succ n_5 ih_5 =>
      intro t_at x3 x4 hw H locs ls hP hD hS hl
      have hw : wpF_C_coin_5 post Nb t_size vb x2 (gL3 (wpF_C_coin_5 post Nb t_size vb x2) n_5) t_at x3 x4 := hw
      rw [wpF_C_coin_5] at hw
      refine lv_iload hx hb d_C_coin_5 (lv_at hl 0 rfl) ?_
      refine lv_sipush (v := (nI 256)) hx hb d_C_coin_7 (by decide) ?_
      refine lv_icmp_gt (tgt := 82) hx hb d_C_coin_10 (by decide) (fun c10 => ?_) (fun c10 => ?_)
      · have hw := hw.1 c10
        refine lv_iconst (v := (-1)) hx hb d_C_coin_82 (by decide) ?_
        exact hret _ _ _ t_at _ _ hw rfl hP hD hS d_C_coin_83
      · have hw := hw.2 c10
        refine lv_iload_n hx hb d_C_coin_13 rfl (lv_at hl 1 rfl) ?_
        refine lv_if_ne (tgt := 19) hx hb d_C_coin_14 (by decide) (fun c14 => ?_) (fun c14 => ?_)
        · have hw := hw.1 c14
          refine lv_iload_n hx hb d_C_coin_19 rfl (lv_at hl 1 rfl) ?_
          refine lv_iload_n hx hb d_C_coin_20 rfl (lv_at hl 3 rfl) ?_
          refine lv_icmp_ne (tgt := 26) hx hb d_C_coin_21 (by decide) (fun c21 => ?_) (fun c21 => ?_)
          · have hw := hw.1 c21
            refine lv_aload_n hx hb d_C_coin_26 rfl (lv_at hl 2 rfl) ?_
            refine g_cVi (wr := []) fx (c_T_readBit l D cI h_t h_b Nb t_size t_at vb _ hw) mf_T_readBit w_139 ⟨rfl, rfl⟩ ⟨Nat.le_of_ble_eq_true rfl, Nat.le_of_ble_eq_true rfl⟩ hN hK hA hP hD hS [0, 1] [] rfl rfl rfl rfl (by decide) 0 rfl rfl rfl rfl hl.1 (Nat.le_of_ble_eq_true rfl) d_C_coin_27 ⟨Nat.zero_le _, Nat.zero_le _⟩ (fun r_1 u H locs hw hP hD hS => ?_)
            obtain ⟨tat_2, rfl⟩ : ∃ z, z = u := ⟨_, rfl⟩
            try dsimp only at hw
            have hP : va_P D gCl [(h_t, .inr (1, [.ref h_b, .int t_size, .int tat_2])), (h_b, .inl (cI, Nb, .inl vb))] H := hP
            have hD : va_D A [(h_t, .inr (1, [.ref h_b, .int t_size, .int tat_2])), (h_b, .inl (cI, Nb, .inl vb))] := hD
            refine lv_istore (lv' := [(5, .int r_1), (4, .int x4), (3, .int x3), (0, .ref h_t), (2, .int x2)]) hx hb d_C_coin_30 hl (by decide) rfl (fun ls hl => ?_)
            refine lv_iload hx hb d_C_coin_32 (lv_at hl 0 rfl) ?_
            refine lv_iconst (v := (-1)) hx hb d_C_coin_34 (by decide) ?_
            refine lv_icmp_ne (tgt := 40) hx hb d_C_coin_35 (by decide) (fun c35 => ?_) (fun c35 => ?_)
            · have hw := hw.1 c35
              refine lv_iconst (v := (nI 2)) hx hb d_C_coin_40 (by decide) ?_
              refine lv_iload_n hx hb d_C_coin_41 rfl (lv_at hl 2 rfl) ?_
              refine lv_imul hx hb d_C_coin_42 ?_
              refine lv_istore_n (lv' := [(3, .int ((nI 2) * x3)), (5, .int r_1), (4, .int x4), (0, .ref h_t), (2, .int x2)]) hx hb d_C_coin_43 rfl hl (by decide) rfl (fun ls hl => ?_)
              refine lv_iload_n hx hb d_C_coin_44 rfl (lv_at hl 0 rfl) ?_
              refine lv_iload_n hx hb d_C_coin_45 rfl (lv_at hl 4 rfl) ?_
              refine lv_icmp_lt (tgt := 53) hx hb d_C_coin_46 (by decide) (fun c46 => ?_) (fun c46 => ?_)
              · have hw := hw.1 c46
                refine lv_iconst (v := (nI 0)) hx hb d_C_coin_53 (by decide) ?_
                refine lv_istore (lv' := [(6, .int (nI 0)), (3, .int ((nI 2) * x3)), (5, .int r_1), (4, .int x4), (0, .ref h_t), (2, .int x2)]) hx hb d_C_coin_54 hl (by decide) rfl (fun ls hl => ?_)
                refine lv_iload hx hb d_C_coin_56 (lv_at hl 0 rfl) ?_
                refine lv_iconst (v := (nI 1)) hx hb d_C_coin_58 (by decide) ?_
                refine lv_icmp_ne (tgt := 66) hx hb d_C_coin_59 (by decide) (fun c59 => ?_) (fun c59 => ?_)
                · have hw := hw.1 c59
                  refine lv_iload hx hb d_C_coin_66 (lv_at hl 2 rfl) ?_
                  refine lv_iload hx hb d_C_coin_68 (lv_at hl 0 rfl) ?_
                  refine lv_icmp_eq (tgt := 76) hx hb d_C_coin_70 (by decide) (fun c70 => ?_) (fun c70 => ?_)
                  · have hw := hw.1 c70
                    refine lv_iinc (v := (x4 + (nI 1))) (lv' := [(4, .int (x4 + (nI 1))), (6, .int (nI 0)), (3, .int ((nI 2) * x3)), (5, .int r_1), (0, .ref h_t), (2, .int x2)]) hx hb d_C_coin_76 hl (k := 3) rfl rfl (by decide) rfl (fun ls hl => ?_)
                    refine lv_goto (tgt := 5) hx hb d_C_coin_79 (by decide) ?_
                    exact ih_5 _ _ _ hw _ _ _ hP hD hS (lv_sub hl [0, 2, 4, 5] rfl)
                  · have hw := hw.2 c70
                    refine lv_iload hx hb d_C_coin_73 (lv_at hl 0 rfl) ?_
                    exact hret _ _ _ tat_2 _ _ hw rfl hP hD hS d_C_coin_75
                · have hw := hw.2 c59
                  refine lv_iload_n hx hb d_C_coin_62 rfl (lv_at hl 1 rfl) ?_
                  refine lv_iload_n hx hb d_C_coin_63 rfl (lv_at hl 5 rfl) ?_
                  refine lv_isub hx hb d_C_coin_64 ?_
                  refine lv_istore_n (lv' := [(3, .int (((nI 2) * x3) - x2)), (6, .int (nI 0)), (5, .int r_1), (4, .int x4), (0, .ref h_t), (2, .int x2)]) hx hb d_C_coin_65 rfl hl (by decide) rfl (fun ls hl => ?_)
                  refine lv_iload hx hb d_C_coin_66 (lv_at hl 2 rfl) ?_
                  refine lv_iload hx hb d_C_coin_68 (lv_at hl 1 rfl) ?_
                  refine lv_icmp_eq (tgt := 76) hx hb d_C_coin_70 (by decide) (fun c70 => ?_) (fun c70 => ?_)
                  · have hw := hw.1 c70
                    refine lv_iinc (v := (x4 + (nI 1))) (lv' := [(4, .int (x4 + (nI 1))), (3, .int (((nI 2) * x3) - x2)), (6, .int (nI 0)), (5, .int r_1), (0, .ref h_t), (2, .int x2)]) hx hb d_C_coin_76 hl (k := 3) rfl rfl (by decide) rfl (fun ls hl => ?_)
                    refine lv_goto (tgt := 5) hx hb d_C_coin_79 (by decide) ?_
                    exact ih_5 _ _ _ hw _ _ _ hP hD hS (lv_sub hl [0, 1, 4, 5] rfl)
                  · have hw := hw.2 c70
                    refine lv_iload hx hb d_C_coin_73 (lv_at hl 1 rfl) ?_
                    exact hret _ _ _ tat_2 _ _ hw rfl hP hD hS d_C_coin_75
              · have hw := hw.2 c46
                refine lv_iconst (v := (nI 1)) hx hb d_C_coin_49 (by decide) ?_
                refine lv_goto (tgt := 54) hx hb d_C_coin_50 (by decide) ?_
                refine lv_istore (lv' := [(6, .int (nI 1)), (3, .int ((nI 2) * x3)), (5, .int r_1), (4, .int x4), (0, .ref h_t), (2, .int x2)]) hx hb d_C_coin_54 hl (by decide) rfl (fun ls hl => ?_)
                refine lv_iload hx hb d_C_coin_56 (lv_at hl 0 rfl) ?_
                refine lv_iconst (v := (nI 1)) hx hb d_C_coin_58 (by decide) ?_
                refine lv_icmp_ne (tgt := 66) hx hb d_C_coin_59 (by decide) (fun c59 => ?_) (fun c59 => ?_)
                · have hw := hw.1 c59
                  refine lv_iload hx hb d_C_coin_66 (lv_at hl 2 rfl) ?_
                  refine lv_iload hx hb d_C_coin_68 (lv_at hl 0 rfl) ?_
                  refine lv_icmp_eq (tgt := 76) hx hb d_C_coin_70 (by decide) (fun c70 => ?_) (fun c70 => ?_)
                  · have hw := hw.1 c70
                    refine lv_iinc (v := (x4 + (nI 1))) (lv' := [(4, .int (x4 + (nI 1))), (6, .int (nI 1)), (3, .int ((nI 2) * x3)), (5, .int r_1), (0, .ref h_t), (2, .int x2)]) hx hb d_C_coin_76 hl (k := 3) rfl rfl (by decide) rfl (fun ls hl => ?_)
                    refine lv_goto (tgt := 5) hx hb d_C_coin_79 (by decide) ?_
                    exact ih_5 _ _ _ hw _ _ _ hP hD hS (lv_sub hl [0, 2, 4, 5] rfl)
                  · have hw := hw.2 c70
                    refine lv_iload hx hb d_C_coin_73 (lv_at hl 0 rfl) ?_
                    exact hret _ _ _ tat_2 _ _ hw rfl hP hD hS d_C_coin_75
                · have hw := hw.2 c59
                  refine lv_iload_n hx hb d_C_coin_62 rfl (lv_at hl 1 rfl) ?_
                  refine lv_iload_n hx hb d_C_coin_63 rfl (lv_at hl 5 rfl) ?_
                  refine lv_isub hx hb d_C_coin_64 ?_
                  refine lv_istore_n (lv' := [(3, .int (((nI 2) * x3) - x2)), (6, .int (nI 1)), (5, .int r_1), (4, .int x4), (0, .ref h_t), (2, .int x2)]) hx hb d_C_coin_65 rfl hl (by decide) rfl (fun ls hl => ?_)
                  refine lv_iload hx hb d_C_coin_66 (lv_at hl 2 rfl) ?_
                  refine lv_iload hx hb d_C_coin_68 (lv_at hl 1 rfl) ?_
                  refine lv_icmp_eq (tgt := 76) hx hb d_C_coin_70 (by decide) (fun c70 => ?_) (fun c70 => ?_)
                  · have hw := hw.1 c70
                    refine lv_iinc (v := (x4 + (nI 1))) (lv' := [(4, .int (x4 + (nI 1))), (3, .int (((nI 2) * x3) - x2)), (6, .int (nI 1)), (5, .int r_1), (0, .ref h_t), (2, .int x2)]) hx hb d_C_coin_76 hl (k := 3) rfl rfl (by decide) rfl (fun ls hl => ?_)
                    refine lv_goto (tgt := 5) hx hb d_C_coin_79 (by decide) ?_
                    exact ih_5 _ _ _ hw _ _ _ hP hD hS (lv_sub hl [0, 1, 4, 5] rfl)
                  · have hw := hw.2 c70
                    refine lv_iload hx hb d_C_coin_73 (lv_at hl 1 rfl) ?_
                    exact hret _ _ _ tat_2 _ _ hw rfl hP hD hS d_C_coin_75
            · have hw := hw.2 c35
              refine lv_iconst (v := (-1)) hx hb d_C_coin_38 (by decide) ?_
              exact hret _ _ _ tat_2 _ _ hw rfl hP hD hS d_C_coin_39
          · have hw := hw.2 c21
            refine lv_iconst (v := (nI 1)) hx hb d_C_coin_24 (by decide) ?_
            exact hret _ _ _ t_at _ _ hw rfl hP hD hS d_C_coin_25
        · have hw := hw.2 c14
          refine lv_iconst (v := (nI 0)) hx hb d_C_coin_17 (by decide) ?_
          exact hret _ _ _ t_at _ _ hw rfl hP hD hS d_C_coin_18
  exact k_5 n_5 _ _ _ hw _ _ _ hP hD hS (lv_sub hl [0, 1, 2, 4] rfl)
def wpF_C_tosses_4 (post : Int32 → Int32 → Prop) (Nb : Nat) (t_size : Int32) (vb : Nat → Int32) (x1 : Int32) (K_4 : Int32 → Int32 → Int32 → Prop) (t_at : Int32) (x2 : Int32) (x3 : Int32) : Prop :=
  ((x1 ≤ x3 → post x2 t_at) ∧ (¬ x1 ≤ x3 → wp_T_readBit (fun r_1 tat_2 => ((¬ r_1 = (-1) → K_4 tat_2 (x2 + r_1) (x3 + (nI 1))) ∧ (r_1 = (-1) → post (-1) tat_2))) Nb t_size t_at vb))
def wp_C_tosses (post : Int32 → Int32 → Prop) (Nb : Nat) (t_size : Int32) (t_at : Int32) (vb : Nat → Int32) (x1 : Int32) : Prop :=
  (∃ n, gL3 (wpF_C_tosses_4 post Nb t_size vb x1) n t_at (nI 0) (nI 0))
abbrev rm_C_tosses : Room := { frames := 1, cells := 0, slots := 0, locals := 21 }
theorem mf_C_tosses : gFS y_C_tosses b_C_tosses 5 (some .int) 2 := ⟨w_145, w_1, ⟨by decide, by decide, by decide +kernel⟩, w_144⟩
set_option maxHeartbeats 4000000 in
set_option maxRecDepth 100000 in
theorem c_C_tosses (l : Launch) (D : va_G) (cI : ClassId) (h_t : Nat) (h_b : Nat) (Nb : Nat) (t_size : Int32) (t_at : Int32) (vb : Nat → Int32) (x1 : Int32) (post : Int32 → Int32 → Prop) (hw : wp_C_tosses post Nb t_size t_at vb x1) :
    gMi l D [(cI, .int)] y_C_tosses b_C_tosses 5 .int rm_C_tosses [.ref h_t, .int x1] [(h_t, .inr (1, [.ref h_b, .int t_size, .int t_at])), (h_b, .inl (cI, Nb, .inl vb))] (S := Int32) (fun u => [(h_t, .inr (1, [.ref h_b, .int t_size, .int u])), (h_b, .inl (cI, Nb, .inl vb))]) (fun r u => post r u) := by
  rw [wp_C_tosses] at hw
  refine gMi.of (by decide) (Nat.le_of_ble_eq_true rfl) (fun p e s m args below meth c A Q ls hx hb hml hown hts hN hK hA hP hD hret hl => ?_)
  have fx : CallFix p m c b_C_tosses 5 s args gG "TapeCounter" := ⟨hx, hb, hml, hown, hts⟩
  have hl : lv_has ls 5 [(0, .ref h_t), (1, .int x1)] := hl
  have hS : va_S A s.heap s.heap [] := va_S.rf
  refine lv_iconst (v := (nI 0)) hx hb d_C_tosses_0 (by decide) ?_
  refine lv_istore_n (lv' := [(2, .int (nI 0)), (0, .ref h_t), (1, .int x1)]) hx hb d_C_tosses_1 rfl hl (by decide) rfl (fun ls hl => ?_)
  refine lv_iconst (v := (nI 0)) hx hb d_C_tosses_2 (by decide) ?_
  refine lv_istore_n (lv' := [(3, .int (nI 0)), (2, .int (nI 0)), (0, .ref h_t), (1, .int x1)]) hx hb d_C_tosses_3 rfl hl (by decide) rfl (fun ls hl => ?_)
  obtain ⟨n_4, hw⟩ := hw
  have k_4 : ∀ (n_4 : Nat) (t_at : Int32) (x2 : Int32) (x3 : Int32), gL3 (wpF_C_tosses_4 post Nb t_size vb x1) n_4 t_at x2 x3 → ∀ (H : Heap) (locs : List Loc) (ls : Array Slot), va_P D gCl [(h_t, .inr (1, [.ref h_b, .int t_size, .int t_at])), (h_b, .inl (cI, Nb, .inl vb))] H → va_D A [(h_t, .inr (1, [.ref h_b, .int t_size, .int t_at])), (h_b, .inl (cI, Nb, .inl vb))] → va_S A s.heap H locs → lv_has ls 5 [(3, .int x3), (2, .int x2), (0, .ref h_t), (1, .int x1)] → W p l e rm_C_tosses s m args below meth c H locs 0 0 Q (F0 m 4 ls []) := by
    clear hw hP hD hS hl
    intro n_4
    induction n_4 with
    | zero => exact fun _ _ _ h => h.elim
    | succ n_4 ih_4 =>
      intro t_at x2 x3 hw H locs ls hP hD hS hl
      have hw : wpF_C_tosses_4 post Nb t_size vb x1 (gL3 (wpF_C_tosses_4 post Nb t_size vb x1) n_4) t_at x2 x3 := hw
      rw [wpF_C_tosses_4] at hw
      refine lv_iload_n hx hb d_C_tosses_4 rfl (lv_at hl 0 rfl) ?_
      refine lv_iload_n hx hb d_C_tosses_5 rfl (lv_at hl 3 rfl) ?_
      refine lv_icmp_ge (tgt := 34) hx hb d_C_tosses_6 (by decide) (fun c6 => ?_) (fun c6 => ?_)
      · have hw := hw.1 c6
        refine lv_iload_n hx hb d_C_tosses_34 rfl (lv_at hl 1 rfl) ?_
        exact hret _ _ _ t_at _ _ hw rfl hP hD hS d_C_tosses_35
      · have hw := hw.2 c6
        refine lv_aload_n hx hb d_C_tosses_9 rfl (lv_at hl 2 rfl) ?_
        refine g_cVi (wr := []) fx (c_T_readBit l D cI h_t h_b Nb t_size t_at vb _ hw) mf_T_readBit w_139 ⟨rfl, rfl⟩ ⟨Nat.le_of_ble_eq_true rfl, Nat.le_of_ble_eq_true rfl⟩ hN hK hA hP hD hS [0, 1] [] rfl rfl rfl rfl (by decide) 0 rfl rfl rfl rfl hl.1 (Nat.le_of_ble_eq_true rfl) d_C_tosses_10 ⟨Nat.zero_le _, Nat.zero_le _⟩ (fun r_1 u H locs hw hP hD hS => ?_)
        obtain ⟨tat_2, rfl⟩ : ∃ z, z = u := ⟨_, rfl⟩
        try dsimp only at hw
        have hP : va_P D gCl [(h_t, .inr (1, [.ref h_b, .int t_size, .int tat_2])), (h_b, .inl (cI, Nb, .inl vb))] H := hP
        have hD : va_D A [(h_t, .inr (1, [.ref h_b, .int t_size, .int tat_2])), (h_b, .inl (cI, Nb, .inl vb))] := hD
        refine lv_istore (lv' := [(4, .int r_1), (3, .int x3), (2, .int x2), (0, .ref h_t), (1, .int x1)]) hx hb d_C_tosses_13 hl (by decide) rfl (fun ls hl => ?_)
        refine lv_iload hx hb d_C_tosses_15 (lv_at hl 0 rfl) ?_
        refine lv_iconst (v := (-1)) hx hb d_C_tosses_17 (by decide) ?_
        refine lv_icmp_ne (tgt := 23) hx hb d_C_tosses_18 (by decide) (fun c18 => ?_) (fun c18 => ?_)
        · have hw := hw.1 c18
          refine lv_iload_n hx hb d_C_tosses_23 rfl (lv_at hl 2 rfl) ?_
          refine lv_iload hx hb d_C_tosses_24 (lv_at hl 0 rfl) ?_
          refine lv_iadd hx hb d_C_tosses_26 ?_
          refine lv_istore_n (lv' := [(2, .int (x2 + r_1)), (4, .int r_1), (3, .int x3), (0, .ref h_t), (1, .int x1)]) hx hb d_C_tosses_27 rfl hl (by decide) rfl (fun ls hl => ?_)
          refine lv_iinc (v := (x3 + (nI 1))) (lv' := [(3, .int (x3 + (nI 1))), (2, .int (x2 + r_1)), (4, .int r_1), (0, .ref h_t), (1, .int x1)]) hx hb d_C_tosses_28 hl (k := 2) rfl rfl (by decide) rfl (fun ls hl => ?_)
          refine lv_goto (tgt := 4) hx hb d_C_tosses_31 (by decide) ?_
          exact ih_4 _ _ _ hw _ _ _ hP hD hS (lv_sub hl [0, 1, 3, 4] rfl)
        · have hw := hw.2 c18
          refine lv_iconst (v := (-1)) hx hb d_C_tosses_21 (by decide) ?_
          exact hret _ _ _ tat_2 _ _ hw rfl hP hD hS d_C_tosses_22
  exact k_4 n_4 _ _ _ hw _ _ _ hP hD hS (lv_sub hl [0, 1, 2, 3] rfl)
def wpF_C_zerosBeforeOne_2 (post : Int32 → Int32 → Prop) (Nb : Nat) (t_size : Int32) (vb : Nat → Int32) (x1 : Int32) (K_2 : Int32 → Int32 → Prop) (t_at : Int32) (x2 : Int32) : Prop :=
  ((x1 ≤ x2 → post x1 t_at) ∧ (¬ x1 ≤ x2 → wp_T_readBit (fun r_1 tat_2 => ((¬ r_1 = (-1) → ((¬ r_1 = (nI 1) → K_2 tat_2 (x2 + (nI 1))) ∧ (r_1 = (nI 1) → post x2 tat_2))) ∧ (r_1 = (-1) → post (-1) tat_2))) Nb t_size t_at vb))
def wp_C_zerosBeforeOne (post : Int32 → Int32 → Prop) (Nb : Nat) (t_size : Int32) (t_at : Int32) (vb : Nat → Int32) (x1 : Int32) : Prop :=
  (∃ n, gL2 (wpF_C_zerosBeforeOne_2 post Nb t_size vb x1) n t_at (nI 0))
abbrev rm_C_zerosBeforeOne : Room := { frames := 1, cells := 0, slots := 0, locals := 21 }
theorem mf_C_zerosBeforeOne : gFS y_C_zerosBeforeOne b_C_zerosBeforeOne 4 (some .int) 2 := ⟨w_148, w_1, ⟨by decide, by decide, by decide +kernel⟩, w_147⟩
set_option maxHeartbeats 4000000 in
set_option maxRecDepth 100000 in
theorem c_C_zerosBeforeOne (l : Launch) (D : va_G) (cI : ClassId) (h_t : Nat) (h_b : Nat) (Nb : Nat) (t_size : Int32) (t_at : Int32) (vb : Nat → Int32) (x1 : Int32) (post : Int32 → Int32 → Prop) (hw : wp_C_zerosBeforeOne post Nb t_size t_at vb x1) :
    gMi l D [(cI, .int)] y_C_zerosBeforeOne b_C_zerosBeforeOne 4 .int rm_C_zerosBeforeOne [.ref h_t, .int x1] [(h_t, .inr (1, [.ref h_b, .int t_size, .int t_at])), (h_b, .inl (cI, Nb, .inl vb))] (S := Int32) (fun u => [(h_t, .inr (1, [.ref h_b, .int t_size, .int u])), (h_b, .inl (cI, Nb, .inl vb))]) (fun r u => post r u) := by
  rw [wp_C_zerosBeforeOne] at hw
  refine gMi.of (by decide) (Nat.le_of_ble_eq_true rfl) (fun p e s m args below meth c A Q ls hx hb hml hown hts hN hK hA hP hD hret hl => ?_)
  have fx : CallFix p m c b_C_zerosBeforeOne 4 s args gG "TapeCounter" := ⟨hx, hb, hml, hown, hts⟩
  have hl : lv_has ls 4 [(0, .ref h_t), (1, .int x1)] := hl
  have hS : va_S A s.heap s.heap [] := va_S.rf
  refine lv_iconst (v := (nI 0)) hx hb d_C_zerosBeforeOne_0 (by decide) ?_
  refine lv_istore_n (lv' := [(2, .int (nI 0)), (0, .ref h_t), (1, .int x1)]) hx hb d_C_zerosBeforeOne_1 rfl hl (by decide) rfl (fun ls hl => ?_)
  obtain ⟨n_2, hw⟩ := hw
  have k_2 : ∀ (n_2 : Nat) (t_at : Int32) (x2 : Int32), gL2 (wpF_C_zerosBeforeOne_2 post Nb t_size vb x1) n_2 t_at x2 → ∀ (H : Heap) (locs : List Loc) (ls : Array Slot), va_P D gCl [(h_t, .inr (1, [.ref h_b, .int t_size, .int t_at])), (h_b, .inl (cI, Nb, .inl vb))] H → va_D A [(h_t, .inr (1, [.ref h_b, .int t_size, .int t_at])), (h_b, .inl (cI, Nb, .inl vb))] → va_S A s.heap H locs → lv_has ls 4 [(2, .int x2), (0, .ref h_t), (1, .int x1)] → W p l e rm_C_zerosBeforeOne s m args below meth c H locs 0 0 Q (F0 m 2 ls []) := by
    clear hw hP hD hS hl
    intro n_2
    induction n_2 with
    | zero => exact fun _ _ h => h.elim
    | succ n_2 ih_2 =>
      intro t_at x2 hw H locs ls hP hD hS hl
      have hw : wpF_C_zerosBeforeOne_2 post Nb t_size vb x1 (gL2 (wpF_C_zerosBeforeOne_2 post Nb t_size vb x1) n_2) t_at x2 := hw
      rw [wpF_C_zerosBeforeOne_2] at hw
      refine lv_iload_n hx hb d_C_zerosBeforeOne_2 rfl (lv_at hl 0 rfl) ?_
      refine lv_iload_n hx hb d_C_zerosBeforeOne_3 rfl (lv_at hl 2 rfl) ?_
      refine lv_icmp_ge (tgt := 32) hx hb d_C_zerosBeforeOne_4 (by decide) (fun c4 => ?_) (fun c4 => ?_)
      · have hw := hw.1 c4
        refine lv_iload_n hx hb d_C_zerosBeforeOne_32 rfl (lv_at hl 2 rfl) ?_
        exact hret _ _ _ t_at _ _ hw rfl hP hD hS d_C_zerosBeforeOne_33
      · have hw := hw.2 c4
        refine lv_aload_n hx hb d_C_zerosBeforeOne_7 rfl (lv_at hl 1 rfl) ?_
        refine g_cVi (wr := []) fx (c_T_readBit l D cI h_t h_b Nb t_size t_at vb _ hw) mf_T_readBit w_139 ⟨rfl, rfl⟩ ⟨Nat.le_of_ble_eq_true rfl, Nat.le_of_ble_eq_true rfl⟩ hN hK hA hP hD hS [0, 1] [] rfl rfl rfl rfl (by decide) 0 rfl rfl rfl rfl hl.1 (Nat.le_of_ble_eq_true rfl) d_C_zerosBeforeOne_8 ⟨Nat.zero_le _, Nat.zero_le _⟩ (fun r_1 u H locs hw hP hD hS => ?_)
        obtain ⟨tat_2, rfl⟩ : ∃ z, z = u := ⟨_, rfl⟩
        try dsimp only at hw
        have hP : va_P D gCl [(h_t, .inr (1, [.ref h_b, .int t_size, .int tat_2])), (h_b, .inl (cI, Nb, .inl vb))] H := hP
        have hD : va_D A [(h_t, .inr (1, [.ref h_b, .int t_size, .int tat_2])), (h_b, .inl (cI, Nb, .inl vb))] := hD
        refine lv_istore_n (lv' := [(3, .int r_1), (2, .int x2), (0, .ref h_t), (1, .int x1)]) hx hb d_C_zerosBeforeOne_11 rfl hl (by decide) rfl (fun ls hl => ?_)
        refine lv_iload_n hx hb d_C_zerosBeforeOne_12 rfl (lv_at hl 0 rfl) ?_
        refine lv_iconst (v := (-1)) hx hb d_C_zerosBeforeOne_13 (by decide) ?_
        refine lv_icmp_ne (tgt := 19) hx hb d_C_zerosBeforeOne_14 (by decide) (fun c14 => ?_) (fun c14 => ?_)
        · have hw := hw.1 c14
          refine lv_iload_n hx hb d_C_zerosBeforeOne_19 rfl (lv_at hl 0 rfl) ?_
          refine lv_iconst (v := (nI 1)) hx hb d_C_zerosBeforeOne_20 (by decide) ?_
          refine lv_icmp_ne (tgt := 26) hx hb d_C_zerosBeforeOne_21 (by decide) (fun c21 => ?_) (fun c21 => ?_)
          · have hw := hw.1 c21
            refine lv_iinc (v := (x2 + (nI 1))) (lv' := [(2, .int (x2 + (nI 1))), (3, .int r_1), (0, .ref h_t), (1, .int x1)]) hx hb d_C_zerosBeforeOne_26 hl (k := 1) rfl rfl (by decide) rfl (fun ls hl => ?_)
            refine lv_goto (tgt := 2) hx hb d_C_zerosBeforeOne_29 (by decide) ?_
            exact ih_2 _ _ hw _ _ _ hP hD hS (lv_sub hl [0, 2, 3] rfl)
          · have hw := hw.2 c21
            refine lv_iload_n hx hb d_C_zerosBeforeOne_24 rfl (lv_at hl 1 rfl) ?_
            exact hret _ _ _ tat_2 _ _ hw rfl hP hD hS d_C_zerosBeforeOne_25
        · have hw := hw.2 c14
          refine lv_iconst (v := (-1)) hx hb d_C_zerosBeforeOne_17 (by decide) ?_
          exact hret _ _ _ tat_2 _ _ hw rfl hP hD hS d_C_zerosBeforeOne_18
  exact k_2 n_2 _ _ hw _ _ _ hP hD hS (lv_sub hl [0, 1, 2] rfl)
def wpF_C_choice_8 (post : Int32 → Int32 → Prop) (Nb : Nat) (t_size : Int32) (vb : Nat → Int32) (x1 : Int32) (x2 : Int32) (K_8 : Int32 → Int32 → Int32 → Int32 → Prop) (t_at : Int32) (x3 : Int32) (x4 : Int32) (x5 : Int32) : Prop :=
  ((x1 ≤ x5 → post x4 t_at) ∧ (¬ x1 ≤ x5 → wp_C_coin (fun r_1 tat_2 => ((¬ r_1 = (-1) → K_8 tat_2 (x3 + r_1) (x4 ||| (r_1 <<< (x5 &&& 31))) (x5 + (nI 1))) ∧ (r_1 = (-1) → post (-1) tat_2))) Nb t_size t_at vb (x2 - x3) (x1 - x5)))
def wp_C_choice (post : Int32 → Int32 → Prop) (Nb : Nat) (t_size : Int32) (t_at : Int32) (vb : Nat → Int32) (x1 : Int32) (x2 : Int32) : Prop :=
  (∃ n, gL4 (wpF_C_choice_8 post Nb t_size vb x1 x2) n t_at (nI 0) (nI 0) (nI 0))
abbrev rm_C_choice : Room := { frames := 2, cells := 0, slots := 0, locals := 47 }
theorem mf_C_choice : gFS y_C_choice b_C_choice 7 (some .int) 3 := ⟨w_159, w_1, ⟨by decide, by decide, by decide +kernel⟩, w_158⟩
set_option maxHeartbeats 4000000 in
set_option maxRecDepth 100000 in
theorem c_C_choice (l : Launch) (D : va_G) (cI : ClassId) (h_t : Nat) (h_b : Nat) (Nb : Nat) (t_size : Int32) (t_at : Int32) (vb : Nat → Int32) (x1 : Int32) (x2 : Int32) (post : Int32 → Int32 → Prop) (hw : wp_C_choice post Nb t_size t_at vb x1 x2) :
    gMi l D [(cI, .int)] y_C_choice b_C_choice 7 .int rm_C_choice [.ref h_t, .int x1, .int x2] [(h_t, .inr (1, [.ref h_b, .int t_size, .int t_at])), (h_b, .inl (cI, Nb, .inl vb))] (S := Int32) (fun u => [(h_t, .inr (1, [.ref h_b, .int t_size, .int u])), (h_b, .inl (cI, Nb, .inl vb))]) (fun r u => post r u) := by
  rw [wp_C_choice] at hw
  refine gMi.of (by decide) (Nat.le_of_ble_eq_true rfl) (fun p e s m args below meth c A Q ls hx hb hml hown hts hN hK hA hP hD hret hl => ?_)
  have fx : CallFix p m c b_C_choice 7 s args gG "TapeCounter" := ⟨hx, hb, hml, hown, hts⟩
  have hl : lv_has ls 7 [(0, .ref h_t), (1, .int x1), (2, .int x2)] := hl
  have hS : va_S A s.heap s.heap [] := va_S.rf
  refine lv_iconst (v := (nI 0)) hx hb d_C_choice_0 (by decide) ?_
  refine lv_istore_n (lv' := [(3, .int (nI 0)), (0, .ref h_t), (1, .int x1), (2, .int x2)]) hx hb d_C_choice_1 rfl hl (by decide) rfl (fun ls hl => ?_)
  refine lv_iconst (v := (nI 0)) hx hb d_C_choice_2 (by decide) ?_
  refine lv_istore (lv' := [(4, .int (nI 0)), (3, .int (nI 0)), (0, .ref h_t), (1, .int x1), (2, .int x2)]) hx hb d_C_choice_3 hl (by decide) rfl (fun ls hl => ?_)
  refine lv_iconst (v := (nI 0)) hx hb d_C_choice_5 (by decide) ?_
  refine lv_istore (lv' := [(5, .int (nI 0)), (4, .int (nI 0)), (3, .int (nI 0)), (0, .ref h_t), (1, .int x1), (2, .int x2)]) hx hb d_C_choice_6 hl (by decide) rfl (fun ls hl => ?_)
  obtain ⟨n_8, hw⟩ := hw
  have k_8 : ∀ (n_8 : Nat) (t_at : Int32) (x3 : Int32) (x4 : Int32) (x5 : Int32), gL4 (wpF_C_choice_8 post Nb t_size vb x1 x2) n_8 t_at x3 x4 x5 → ∀ (H : Heap) (locs : List Loc) (ls : Array Slot), va_P D gCl [(h_t, .inr (1, [.ref h_b, .int t_size, .int t_at])), (h_b, .inl (cI, Nb, .inl vb))] H → va_D A [(h_t, .inr (1, [.ref h_b, .int t_size, .int t_at])), (h_b, .inl (cI, Nb, .inl vb))] → va_S A s.heap H locs → lv_has ls 7 [(5, .int x5), (4, .int x4), (3, .int x3), (0, .ref h_t), (1, .int x1), (2, .int x2)] → W p l e rm_C_choice s m args below meth c H locs 0 0 Q (F0 m 8 ls []) := by
    clear hw hP hD hS hl
    intro n_8
    induction n_8 with
    | zero => exact fun _ _ _ _ h => h.elim
    | succ n_8 ih_8 =>
      intro t_at x3 x4 x5 hw H locs ls hP hD hS hl
      have hw : wpF_C_choice_8 post Nb t_size vb x1 x2 (gL4 (wpF_C_choice_8 post Nb t_size vb x1 x2) n_8) t_at x3 x4 x5 := hw
      rw [wpF_C_choice_8] at hw
      refine lv_iload hx hb d_C_choice_8 (lv_at hl 0 rfl) ?_
      refine lv_iload_n hx hb d_C_choice_10 rfl (lv_at hl 4 rfl) ?_
      refine lv_icmp_ge (tgt := 56) hx hb d_C_choice_11 (by decide) (fun c11 => ?_) (fun c11 => ?_)
      · have hw := hw.1 c11
        refine lv_iload hx hb d_C_choice_56 (lv_at hl 1 rfl) ?_
        exact hret _ _ _ t_at _ _ hw rfl hP hD hS d_C_choice_58
      · have hw := hw.2 c11
        refine lv_aload_n hx hb d_C_choice_14 rfl (lv_at hl 3 rfl) ?_
        refine lv_iload_n hx hb d_C_choice_15 rfl (lv_at hl 5 rfl) ?_
        refine lv_iload_n hx hb d_C_choice_16 rfl (lv_at hl 2 rfl) ?_
        refine lv_isub hx hb d_C_choice_17 ?_
        refine lv_iload_n hx hb d_C_choice_18 rfl (lv_at hl 4 rfl) ?_
        refine lv_iload hx hb d_C_choice_19 (lv_at hl 0 rfl) ?_
        refine lv_isub hx hb d_C_choice_21 ?_
        refine g_cSi (wr := []) fx (c_C_coin l D cI h_t h_b Nb t_size t_at vb (x2 - x3) (x1 - x5) _ hw) mf_C_coin w_140 ⟨rfl, rfl⟩ ⟨Nat.le_of_ble_eq_true rfl, Nat.le_of_ble_eq_true rfl⟩ hN hK hA hP hD hS [0, 1] [] rfl rfl rfl rfl (by decide) rfl rfl hl.1 (Nat.le_of_ble_eq_true rfl) d_C_choice_22 ⟨Nat.zero_le _, Nat.zero_le _⟩ (fun r_1 u H locs hw hP hD hS => ?_)
        obtain ⟨tat_2, rfl⟩ : ∃ z, z = u := ⟨_, rfl⟩
        try dsimp only at hw
        have hP : va_P D gCl [(h_t, .inr (1, [.ref h_b, .int t_size, .int tat_2])), (h_b, .inl (cI, Nb, .inl vb))] H := hP
        have hD : va_D A [(h_t, .inr (1, [.ref h_b, .int t_size, .int tat_2])), (h_b, .inl (cI, Nb, .inl vb))] := hD
        refine lv_istore (lv' := [(6, .int r_1), (5, .int x5), (4, .int x4), (3, .int x3), (0, .ref h_t), (1, .int x1), (2, .int x2)]) hx hb d_C_choice_25 hl (by decide) rfl (fun ls hl => ?_)
        refine lv_iload hx hb d_C_choice_27 (lv_at hl 0 rfl) ?_
        refine lv_iconst (v := (-1)) hx hb d_C_choice_29 (by decide) ?_
        refine lv_icmp_ne (tgt := 35) hx hb d_C_choice_30 (by decide) (fun c30 => ?_) (fun c30 => ?_)
        · have hw := hw.1 c30
          refine lv_iload_n hx hb d_C_choice_35 rfl (lv_at hl 3 rfl) ?_
          refine lv_iload hx hb d_C_choice_36 (lv_at hl 0 rfl) ?_
          refine lv_iadd hx hb d_C_choice_38 ?_
          refine lv_istore_n (lv' := [(3, .int (x3 + r_1)), (6, .int r_1), (5, .int x5), (4, .int x4), (0, .ref h_t), (1, .int x1), (2, .int x2)]) hx hb d_C_choice_39 rfl hl (by decide) rfl (fun ls hl => ?_)
          refine lv_iload hx hb d_C_choice_40 (lv_at hl 3 rfl) ?_
          refine lv_iload hx hb d_C_choice_42 (lv_at hl 1 rfl) ?_
          refine lv_iload hx hb d_C_choice_44 (lv_at hl 2 rfl) ?_
          refine lv_ishl hx hb d_C_choice_46 ?_
          refine lv_ior hx hb d_C_choice_47 ?_
          refine lv_istore (lv' := [(4, .int (x4 ||| (r_1 <<< (x5 &&& 31)))), (3, .int (x3 + r_1)), (6, .int r_1), (5, .int x5), (0, .ref h_t), (1, .int x1), (2, .int x2)]) hx hb d_C_choice_48 hl (by decide) rfl (fun ls hl => ?_)
          refine lv_iinc (v := (x5 + (nI 1))) (lv' := [(5, .int (x5 + (nI 1))), (4, .int (x4 ||| (r_1 <<< (x5 &&& 31)))), (3, .int (x3 + r_1)), (6, .int r_1), (0, .ref h_t), (1, .int x1), (2, .int x2)]) hx hb d_C_choice_50 hl (k := 3) rfl rfl (by decide) rfl (fun ls hl => ?_)
          refine lv_goto (tgt := 8) hx hb d_C_choice_53 (by decide) ?_
          exact ih_8 _ _ _ _ hw _ _ _ hP hD hS (lv_sub hl [0, 1, 2, 4, 5, 6] rfl)
        · have hw := hw.2 c30
          refine lv_iconst (v := (-1)) hx hb d_C_choice_33 (by decide) ?_
          exact hret _ _ _ tat_2 _ _ hw rfl hP hD hS d_C_choice_34
  exact k_8 n_8 _ _ _ _ hw _ _ _ hP hD hS (lv_sub hl [0, 1, 2, 3, 4, 5] rfl)
