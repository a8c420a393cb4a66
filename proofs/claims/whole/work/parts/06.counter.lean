def wpF_C_weightSum_4 (post : Int32 → Prop) (vw : Nat → Int32) (K_4 : Int32 → Int32 → Prop) (x1 : Int32) (x2 : Int32) : Prop :=
  (((nI 8) ≤ x2 → post x1) ∧ (¬ (nI 8) ≤ x2 → (vp_in x2 8 ∧ K_4 (x1 + (vw (x2).toNatClampNeg)) (x2 + (nI 1)))))
def wp_C_weightSum (post : Int32 → Prop) (c_latestSpent : Int32) (vw : Nat → Int32) : Prop :=
  (∃ n, gL2 (wpF_C_weightSum_4 post vw) n (nI 0) (nI 0))
abbrev rm_C_weightSum : Room := { frames := 0, cells := 0, slots := 0, locals := 0 }
theorem mf_C_weightSum : gFV y_C_weightSum b_C_weightSum 3 (some .int) 0 := ⟨w_108, w_1, ⟨by decide, by decide, by decide +kernel⟩, w_107, ws_1_0⟩
set_option maxHeartbeats 4000000 in
set_option maxRecDepth 100000 in
theorem c_C_weightSum (l : Launch) (D : va_G) (cI : ClassId) (h_c : Nat) (h_w : Nat) (c_row : Nat) (c_tape : Nat) (c_trial : Nat) (c_tally : Nat) (c_latestSpent : Int32) (vw : Nat → Int32) (post : Int32 → Prop) (hw : wp_C_weightSum post c_latestSpent vw) :
    gMi l D [(cI, .int)] y_C_weightSum b_C_weightSum 3 .int rm_C_weightSum [.ref h_c] [(h_c, .inr (2, [.ref h_w, .ref c_row, .ref c_tape, .ref c_trial, .ref c_tally, .int c_latestSpent])), (h_w, .inl (cI, 8, .inl vw))] (S := Unit) (fun u => [(h_c, .inr (2, [.ref h_w, .ref c_row, .ref c_tape, .ref c_trial, .ref c_tally, .int c_latestSpent])), (h_w, .inl (cI, 8, .inl vw))]) (fun r u => post r) := by
  rw [wp_C_weightSum] at hw
  refine gMi.of (by decide) (Nat.le_of_ble_eq_true rfl) (fun p e s m args below meth c A Q ls hx hb hml hown hts hN hK hA hP hD hret hl => ?_)
  have fx : CallFix p m c b_C_weightSum 3 s args gG "TapeCounter" := ⟨hx, hb, hml, hown, hts⟩
  have hl : lv_has ls 3 [(0, .ref h_c)] := hl
  have hS : va_S A s.heap s.heap [] := va_S.rf
  refine lv_iconst (v := (nI 0)) hx hb d_C_weightSum_0 (by decide) ?_
  refine lv_istore_n (lv' := [(1, .int (nI 0)), (0, .ref h_c)]) hx hb d_C_weightSum_1 rfl hl (by decide) rfl (fun ls hl => ?_)
  refine lv_iconst (v := (nI 0)) hx hb d_C_weightSum_2 (by decide) ?_
  refine lv_istore_n (lv' := [(2, .int (nI 0)), (1, .int (nI 0)), (0, .ref h_c)]) hx hb d_C_weightSum_3 rfl hl (by decide) rfl (fun ls hl => ?_)
  obtain ⟨n_4, hw⟩ := hw
  have k_4 : ∀ (n_4 : Nat) (x1 : Int32) (x2 : Int32), gL2 (wpF_C_weightSum_4 post vw) n_4 x1 x2 → ∀ (H : Heap) (locs : List Loc) (ls : Array Slot), va_P D gCl [(h_c, .inr (2, [.ref h_w, .ref c_row, .ref c_tape, .ref c_trial, .ref c_tally, .int c_latestSpent])), (h_w, .inl (cI, 8, .inl vw))] H → va_D A [(h_c, .inr (2, [.ref h_w, .ref c_row, .ref c_tape, .ref c_trial, .ref c_tally, .int c_latestSpent])), (h_w, .inl (cI, 8, .inl vw))] → va_S A s.heap H locs → lv_has ls 3 [(2, .int x2), (1, .int x1), (0, .ref h_c)] → W p l e rm_C_weightSum s m args below meth c H locs 0 0 Q (F0 m 4 ls []) := by
    clear hw hP hD hS hl
    intro n_4
    induction n_4 with
    | zero => exact fun _ _ h => h.elim
    | succ n_4 ih_4 =>
      intro x1 x2 hw H locs ls hP hD hS hl
      have hw : wpF_C_weightSum_4 post vw (gL2 (wpF_C_weightSum_4 post vw) n_4) x1 x2 := hw
      rw [wpF_C_weightSum_4] at hw
      refine lv_iload_n hx hb d_C_weightSum_4 rfl (lv_at hl 0 rfl) ?_
      refine lv_bipush (v := (nI 8)) hx hb d_C_weightSum_5 (by decide) ?_
      refine lv_icmp_ge (tgt := 25) hx hb d_C_weightSum_7 (by decide) (fun c7 => ?_) (fun c7 => ?_)
      · have hw := hw.1 c7
        refine lv_iload_n hx hb d_C_weightSum_25 rfl (lv_at hl 1 rfl) ?_
        exact hret _ _ _ () _ _ hw rfl hP hD hS d_C_weightSum_26
      · have hw := hw.2 c7
        refine lv_iload_n hx hb d_C_weightSum_10 rfl (lv_at hl 1 rfl) ?_
        refine lv_aload_n hx hb d_C_weightSum_11 rfl (lv_at hl 2 rfl) ?_
        refine gGet fx hK hP 0 rfl inC rfl (k := 0) (by decide) w_55 rfl d_C_weightSum_12 ?_
        refine lv_iload_n hx hb d_C_weightSum_15 rfl (lv_at hl 0 rfl) ?_
        refine va_iald hx hb hK hP 1 0 rfl rfl hw.1 d_C_weightSum_16 ?_
        have hw := hw.2
        refine lv_iadd hx hb d_C_weightSum_17 ?_
        refine lv_istore_n (lv' := [(1, .int (x1 + (vw (x2).toNatClampNeg))), (2, .int x2), (0, .ref h_c)]) hx hb d_C_weightSum_18 rfl hl (by decide) rfl (fun ls hl => ?_)
        refine lv_iinc (v := (x2 + (nI 1))) (lv' := [(2, .int (x2 + (nI 1))), (1, .int (x1 + (vw (x2).toNatClampNeg))), (0, .ref h_c)]) hx hb d_C_weightSum_19 hl (k := 1) rfl rfl (by decide) rfl (fun ls hl => ?_)
        refine lv_goto (tgt := 4) hx hb d_C_weightSum_22 (by decide) ?_
        exact ih_4 _ _ hw _ _ _ hP hD hS (lv_sub hl [0, 1, 2] rfl)
  exact k_4 n_4 _ _ hw _ _ _ hP hD hS (lv_sub hl [0, 1, 2] rfl)
def wp_C_weigh (post : Int32 → (Nat → Int32) → Prop) (c_latestSpent : Int32) (vw : Nat → Int32) (x1 : Int32) (x2 : Int32) : Prop :=
  wp_C_isWithin (fun r_1 => ((r_1 = 0 → post (nI 0) vw) ∧ (¬ r_1 = 0 → wp_C_isWithin (fun r_2 => ((¬ r_2 = 0 → (vp_in x1 8 ∧ post (nI 1) (upd vw (x1).toNatClampNeg x2))) ∧ (r_2 = 0 → post (nI 0) vw))) x2 (nI 0) (nI 15)))) x1 (nI 0) (nI 7)
abbrev rm_C_weigh : Room := { frames := 1, cells := 0, slots := 0, locals := 22 }
theorem mf_C_weigh : gFV y_C_weigh b_C_weigh 3 (some .boolean) 2 := ⟨w_77, w_1, ⟨by decide, by decide, by decide +kernel⟩, w_75, w_76⟩
set_option maxHeartbeats 4000000 in
set_option maxRecDepth 100000 in
theorem c_C_weigh (l : Launch) (D : va_G) (cI : ClassId) (h_c : Nat) (h_w : Nat) (c_row : Nat) (c_tape : Nat) (c_trial : Nat) (c_tally : Nat) (c_latestSpent : Int32) (vw : Nat → Int32) (x1 : Int32) (x2 : Int32) (post : Int32 → (Nat → Int32) → Prop) (hw : wp_C_weigh post c_latestSpent vw x1 x2) :
    gMi l D [(cI, .int)] y_C_weigh b_C_weigh 3 .boolean rm_C_weigh [.ref h_c, .int x1, .int x2] [(h_c, .inr (2, [.ref h_w, .ref c_row, .ref c_tape, .ref c_trial, .ref c_tally, .int c_latestSpent])), (h_w, .inl (cI, 8, .inl vw))] (S := (Nat → Int32)) (fun u => [(h_c, .inr (2, [.ref h_w, .ref c_row, .ref c_tape, .ref c_trial, .ref c_tally, .int c_latestSpent])), (h_w, .inl (cI, 8, .inl u))]) (fun r u => post r u) := by
  rw [wp_C_weigh] at hw
  refine gMi.of (by decide) (Nat.le_of_ble_eq_true rfl) (fun p e s m args below meth c A Q ls hx hb hml hown hts hN hK hA hP hD hret hl => ?_)
  have fx : CallFix p m c b_C_weigh 3 s args gG "TapeCounter" := ⟨hx, hb, hml, hown, hts⟩
  have hl : lv_has ls 3 [(0, .ref h_c), (1, .int x1), (2, .int x2)] := hl
  have hS : va_S A s.heap s.heap [] := va_S.rf
  refine lv_iload_n hx hb d_C_weigh_0 rfl (lv_at hl 1 rfl) ?_
  refine lv_iconst (v := (nI 0)) hx hb d_C_weigh_1 (by decide) ?_
  refine lv_bipush (v := (nI 7)) hx hb d_C_weigh_2 (by decide) ?_
  refine g_cSi (wr := [(h_c, .inr (2, [.ref h_w, .ref c_row, .ref c_tape, .ref c_trial, .ref c_tally, .int c_latestSpent])), (h_w, .inl (cI, 8, .inl vw))]) fx (c_C_isWithin l D cI  x1 (nI 0) (nI 7) _ hw) mf_C_isWithin w_78 ⟨rfl, rfl⟩ ⟨Nat.le_of_ble_eq_true rfl, Nat.le_of_ble_eq_true rfl⟩ hN hK hA hP hD hS [] [0, 1] rfl rfl rfl rfl (by decide) rfl rfl hl.1 (Nat.le_of_ble_eq_true rfl) d_C_weigh_4 ⟨Nat.zero_le _, Nat.zero_le _⟩ (fun r_1 u H locs hw hP hD hS => ?_)
  try dsimp only at hw
  have hP : va_P D gCl [(h_c, .inr (2, [.ref h_w, .ref c_row, .ref c_tape, .ref c_trial, .ref c_tally, .int c_latestSpent])), (h_w, .inl (cI, 8, .inl vw))] H := hP
  have hD : va_D A [(h_c, .inr (2, [.ref h_w, .ref c_row, .ref c_tape, .ref c_trial, .ref c_tally, .int c_latestSpent])), (h_w, .inl (cI, 8, .inl vw))] := hD
  refine lv_if_eq (tgt := 20) hx hb d_C_weigh_7 (by decide) (fun c7 => ?_) (fun c7 => ?_)
  · have hw := hw.1 c7
    refine lv_iconst (v := (nI 0)) hx hb d_C_weigh_20 (by decide) ?_
    exact hret _ _ _ vw _ _ hw rfl hP hD hS d_C_weigh_21
  · have hw := hw.2 c7
    refine lv_iload_n hx hb d_C_weigh_10 rfl (lv_at hl 2 rfl) ?_
    refine lv_iconst (v := (nI 0)) hx hb d_C_weigh_11 (by decide) ?_
    refine lv_bipush (v := (nI 15)) hx hb d_C_weigh_12 (by decide) ?_
    refine g_cSi (wr := [(h_c, .inr (2, [.ref h_w, .ref c_row, .ref c_tape, .ref c_trial, .ref c_tally, .int c_latestSpent])), (h_w, .inl (cI, 8, .inl vw))]) fx (c_C_isWithin l D cI  x2 (nI 0) (nI 15) _ hw) mf_C_isWithin w_78 ⟨rfl, rfl⟩ ⟨Nat.le_of_ble_eq_true rfl, Nat.le_of_ble_eq_true rfl⟩ hN hK hA hP hD hS [] [0, 1] rfl rfl rfl rfl (by decide) rfl rfl hl.1 (Nat.le_of_ble_eq_true rfl) d_C_weigh_14 ⟨Nat.zero_le _, Nat.zero_le _⟩ (fun r_2 u H locs hw hP hD hS => ?_)
    try dsimp only at hw
    have hP : va_P D gCl [(h_c, .inr (2, [.ref h_w, .ref c_row, .ref c_tape, .ref c_trial, .ref c_tally, .int c_latestSpent])), (h_w, .inl (cI, 8, .inl vw))] H := hP
    have hD : va_D A [(h_c, .inr (2, [.ref h_w, .ref c_row, .ref c_tape, .ref c_trial, .ref c_tally, .int c_latestSpent])), (h_w, .inl (cI, 8, .inl vw))] := hD
    refine lv_if_ne (tgt := 22) hx hb d_C_weigh_17 (by decide) (fun c17 => ?_) (fun c17 => ?_)
    · have hw := hw.1 c17
      refine lv_aload_n hx hb d_C_weigh_22 rfl (lv_at hl 0 rfl) ?_
      refine gGet fx hK hP 0 rfl inC rfl (k := 0) (by decide) w_55 rfl d_C_weigh_23 ?_
      refine lv_iload_n hx hb d_C_weigh_26 rfl (lv_at hl 1 rfl) ?_
      refine lv_iload_n hx hb d_C_weigh_27 rfl (lv_at hl 2 rfl) ?_
      refine va_iast hx hb hK hP hD hS 1 0 rfl rfl hw.1 d_C_weigh_28 (fun H locs hP hD hS => ?_)
      have hw := hw.2
      have hP : va_P D gCl [(h_c, .inr (2, [.ref h_w, .ref c_row, .ref c_tape, .ref c_trial, .ref c_tally, .int c_latestSpent])), (h_w, .inl (cI, 8, .inl (upd vw (x1).toNatClampNeg x2)))] H := hP
      have hD : va_D A [(h_c, .inr (2, [.ref h_w, .ref c_row, .ref c_tape, .ref c_trial, .ref c_tally, .int c_latestSpent])), (h_w, .inl (cI, 8, .inl (upd vw (x1).toNatClampNeg x2)))] := hD
      refine lv_iconst (v := (nI 1)) hx hb d_C_weigh_29 (by decide) ?_
      exact hret _ _ _ (upd vw (x1).toNatClampNeg x2) _ _ hw rfl hP hD hS d_C_weigh_30
    · have hw := hw.2 c17
      refine lv_iconst (v := (nI 0)) hx hb d_C_weigh_20 (by decide) ?_
      exact hret _ _ _ vw _ _ hw rfl hP hD hS d_C_weigh_21
def wp_C_weight (post : Int32 → Prop) (c_latestSpent : Int32) (vw : Nat → Int32) (x1 : Int32) : Prop :=
  wp_C_isWithin (fun r_1 => ((r_1 = 0 → post (-1)) ∧ (¬ r_1 = 0 → (vp_in x1 8 ∧ post (vw (x1).toNatClampNeg))))) x1 (nI 0) (nI 7)
abbrev rm_C_weight : Room := { frames := 1, cells := 0, slots := 0, locals := 22 }
theorem mf_C_weight : gFV y_C_weight b_C_weight 2 (some .int) 1 := ⟨w_84, w_1, ⟨by decide, by decide, by decide +kernel⟩, w_82, w_83⟩
set_option maxHeartbeats 4000000 in
set_option maxRecDepth 100000 in
theorem c_C_weight (l : Launch) (D : va_G) (cI : ClassId) (h_c : Nat) (h_w : Nat) (c_row : Nat) (c_tape : Nat) (c_trial : Nat) (c_tally : Nat) (c_latestSpent : Int32) (vw : Nat → Int32) (x1 : Int32) (post : Int32 → Prop) (hw : wp_C_weight post c_latestSpent vw x1) :
    gMi l D [(cI, .int)] y_C_weight b_C_weight 2 .int rm_C_weight [.ref h_c, .int x1] [(h_c, .inr (2, [.ref h_w, .ref c_row, .ref c_tape, .ref c_trial, .ref c_tally, .int c_latestSpent])), (h_w, .inl (cI, 8, .inl vw))] (S := Unit) (fun u => [(h_c, .inr (2, [.ref h_w, .ref c_row, .ref c_tape, .ref c_trial, .ref c_tally, .int c_latestSpent])), (h_w, .inl (cI, 8, .inl vw))]) (fun r u => post r) := by
  rw [wp_C_weight] at hw
  refine gMi.of (by decide) (Nat.le_of_ble_eq_true rfl) (fun p e s m args below meth c A Q ls hx hb hml hown hts hN hK hA hP hD hret hl => ?_)
  have fx : CallFix p m c b_C_weight 2 s args gG "TapeCounter" := ⟨hx, hb, hml, hown, hts⟩
  have hl : lv_has ls 2 [(0, .ref h_c), (1, .int x1)] := hl
  have hS : va_S A s.heap s.heap [] := va_S.rf
  refine lv_iload_n hx hb d_C_weight_0 rfl (lv_at hl 1 rfl) ?_
  refine lv_iconst (v := (nI 0)) hx hb d_C_weight_1 (by decide) ?_
  refine lv_bipush (v := (nI 7)) hx hb d_C_weight_2 (by decide) ?_
  refine g_cSi (wr := [(h_c, .inr (2, [.ref h_w, .ref c_row, .ref c_tape, .ref c_trial, .ref c_tally, .int c_latestSpent])), (h_w, .inl (cI, 8, .inl vw))]) fx (c_C_isWithin l D cI  x1 (nI 0) (nI 7) _ hw) mf_C_isWithin w_78 ⟨rfl, rfl⟩ ⟨Nat.le_of_ble_eq_true rfl, Nat.le_of_ble_eq_true rfl⟩ hN hK hA hP hD hS [] [0, 1] rfl rfl rfl rfl (by decide) rfl rfl hl.1 (Nat.le_of_ble_eq_true rfl) d_C_weight_4 ⟨Nat.zero_le _, Nat.zero_le _⟩ (fun r_1 u H locs hw hP hD hS => ?_)
  try dsimp only at hw
  have hP : va_P D gCl [(h_c, .inr (2, [.ref h_w, .ref c_row, .ref c_tape, .ref c_trial, .ref c_tally, .int c_latestSpent])), (h_w, .inl (cI, 8, .inl vw))] H := hP
  have hD : va_D A [(h_c, .inr (2, [.ref h_w, .ref c_row, .ref c_tape, .ref c_trial, .ref c_tally, .int c_latestSpent])), (h_w, .inl (cI, 8, .inl vw))] := hD
  refine lv_if_eq (tgt := 19) hx hb d_C_weight_7 (by decide) (fun c7 => ?_) (fun c7 => ?_)
  · have hw := hw.1 c7
    refine lv_iconst (v := (-1)) hx hb d_C_weight_19 (by decide) ?_
    exact hret _ _ _ () _ _ hw rfl hP hD hS d_C_weight_20
  · have hw := hw.2 c7
    refine lv_aload_n hx hb d_C_weight_10 rfl (lv_at hl 0 rfl) ?_
    refine gGet fx hK hP 0 rfl inC rfl (k := 0) (by decide) w_55 rfl d_C_weight_11 ?_
    refine lv_iload_n hx hb d_C_weight_14 rfl (lv_at hl 1 rfl) ?_
    refine va_iald hx hb hK hP 1 0 rfl rfl hw.1 d_C_weight_15 ?_
    have hw := hw.2
    refine lv_goto (tgt := 20) hx hb d_C_weight_16 (by decide) ?_
    exact hret _ _ _ () _ _ hw rfl hP hD hS d_C_weight_20
def wp_C_feed (post : Int32 → Int32 → (Nat → Int32) → Prop) (Nb : Nat) (c_latestSpent : Int32) (t_size : Int32) (t_at : Int32) (vb : Nat → Int32) (x1 : Int32) (x2 : Int32) : Prop :=
  wp_T_append (fun r_1 tsize_2 vb_3 => ((r_1 = 0 → post (-1) tsize_2 vb_3) ∧ (¬ r_1 = 0 → wp_T_size (fun r_4 => post r_4 tsize_2 vb_3) tsize_2 t_at))) Nb t_size t_at vb x1 x2
abbrev rm_C_feed : Room := { frames := 1, cells := 0, slots := 0, locals := 23 }
theorem mf_C_feed : gFV y_C_feed b_C_feed 3 (some .int) 2 := ⟨w_88, w_1, ⟨by decide, by decide, by decide +kernel⟩, w_86, w_87⟩
set_option maxHeartbeats 4000000 in
set_option maxRecDepth 100000 in
theorem c_C_feed (l : Launch) (D : va_G) (cI : ClassId) (h_c : Nat) (h_t : Nat) (h_b : Nat) (c_weights : Nat) (c_row : Nat) (c_trial : Nat) (c_tally : Nat) (Nb : Nat) (c_latestSpent : Int32) (t_size : Int32) (t_at : Int32) (vb : Nat → Int32) (x1 : Int32) (x2 : Int32) (post : Int32 → Int32 → (Nat → Int32) → Prop) (hw : wp_C_feed post Nb c_latestSpent t_size t_at vb x1 x2) :
    gMi l D [(cI, .int)] y_C_feed b_C_feed 3 .int rm_C_feed [.ref h_c, .int x1, .int x2] [(h_c, .inr (2, [.ref c_weights, .ref c_row, .ref h_t, .ref c_trial, .ref c_tally, .int c_latestSpent])), (h_t, .inr (1, [.ref h_b, .int t_size, .int t_at])), (h_b, .inl (cI, Nb, .inl vb))] (S := Int32 × (Nat → Int32)) (fun u => [(h_c, .inr (2, [.ref c_weights, .ref c_row, .ref h_t, .ref c_trial, .ref c_tally, .int c_latestSpent])), (h_t, .inr (1, [.ref h_b, .int u.1, .int t_at])), (h_b, .inl (cI, Nb, .inl u.2))]) (fun r u => post r u.1 u.2) := by
  rw [wp_C_feed] at hw
  refine gMi.of (by decide) (Nat.le_of_ble_eq_true rfl) (fun p e s m args below meth c A Q ls hx hb hml hown hts hN hK hA hP hD hret hl => ?_)
  have fx : CallFix p m c b_C_feed 3 s args gG "TapeCounter" := ⟨hx, hb, hml, hown, hts⟩
  have hl : lv_has ls 3 [(0, .ref h_c), (1, .int x1), (2, .int x2)] := hl
  have hS : va_S A s.heap s.heap [] := va_S.rf
  refine lv_aload_n hx hb d_C_feed_0 rfl (lv_at hl 0 rfl) ?_
  refine gGet fx hK hP 0 rfl inC rfl (k := 2) (by decide) w_57 rfl d_C_feed_1 ?_
  refine lv_iload_n hx hb d_C_feed_4 rfl (lv_at hl 1 rfl) ?_
  refine lv_iload_n hx hb d_C_feed_5 rfl (lv_at hl 2 rfl) ?_
  refine g_cVi (wr := [(h_c, .inr (2, [.ref c_weights, .ref c_row, .ref h_t, .ref c_trial, .ref c_tally, .int c_latestSpent]))]) fx (c_T_append l D cI h_t h_b Nb t_size t_at vb x1 x2 _ hw) mf_T_append w_89 ⟨rfl, rfl⟩ ⟨Nat.le_of_ble_eq_true rfl, Nat.le_of_ble_eq_true rfl⟩ hN hK hA hP hD hS [1, 2] [0] rfl rfl rfl rfl (by decide) 0 rfl rfl rfl rfl hl.1 (Nat.le_of_ble_eq_true rfl) d_C_feed_6 ⟨Nat.zero_le _, Nat.zero_le _⟩ (fun r_1 u H locs hw hP hD hS => ?_)
  obtain ⟨tsize_2, vb_3⟩ := u
  try dsimp only at hw
  have hP : va_P D gCl [(h_c, .inr (2, [.ref c_weights, .ref c_row, .ref h_t, .ref c_trial, .ref c_tally, .int c_latestSpent])), (h_t, .inr (1, [.ref h_b, .int tsize_2, .int t_at])), (h_b, .inl (cI, Nb, .inl vb_3))] H := hP
  have hD : va_D A [(h_c, .inr (2, [.ref c_weights, .ref c_row, .ref h_t, .ref c_trial, .ref c_tally, .int c_latestSpent])), (h_t, .inr (1, [.ref h_b, .int tsize_2, .int t_at])), (h_b, .inl (cI, Nb, .inl vb_3))] := hD
  refine lv_if_eq (tgt := 22) hx hb d_C_feed_9 (by decide) (fun c9 => ?_) (fun c9 => ?_)
  · have hw := hw.1 c9
    refine lv_iconst (v := (-1)) hx hb d_C_feed_22 (by decide) ?_
    exact hret _ _ _ (tsize_2, vb_3) _ _ hw rfl hP hD hS d_C_feed_23
  · have hw := hw.2 c9
    refine lv_aload_n hx hb d_C_feed_12 rfl (lv_at hl 0 rfl) ?_
    refine gGet fx hK hP 0 rfl inC rfl (k := 2) (by decide) w_57 rfl d_C_feed_13 ?_
    refine g_cVi (wr := [(h_c, .inr (2, [.ref c_weights, .ref c_row, .ref h_t, .ref c_trial, .ref c_tally, .int c_latestSpent])), (h_b, .inl (cI, Nb, .inl vb_3))]) fx (c_T_size l D cI h_t h_b tsize_2 t_at _ hw) mf_T_size w_93 ⟨rfl, rfl⟩ ⟨Nat.le_of_ble_eq_true rfl, Nat.le_of_ble_eq_true rfl⟩ hN hK hA hP hD hS [1] [0, 2] rfl rfl rfl rfl (by decide) 0 rfl rfl rfl rfl hl.1 (Nat.le_of_ble_eq_true rfl) d_C_feed_16 ⟨Nat.zero_le _, Nat.zero_le _⟩ (fun r_4 u H locs hw hP hD hS => ?_)
    try dsimp only at hw
    have hP : va_P D gCl [(h_c, .inr (2, [.ref c_weights, .ref c_row, .ref h_t, .ref c_trial, .ref c_tally, .int c_latestSpent])), (h_b, .inl (cI, Nb, .inl vb_3)), (h_t, .inr (1, [.ref h_b, .int tsize_2, .int t_at]))] H := hP
    have hD : va_D A [(h_c, .inr (2, [.ref c_weights, .ref c_row, .ref h_t, .ref c_trial, .ref c_tally, .int c_latestSpent])), (h_b, .inl (cI, Nb, .inl vb_3)), (h_t, .inr (1, [.ref h_b, .int tsize_2, .int t_at]))] := hD
    refine lv_goto (tgt := 23) hx hb d_C_feed_19 (by decide) ?_
    exact hret _ _ _ (tsize_2, vb_3) _ _ hw rfl (gSubP hP [0, 2, 1] rfl) (hD.sub [0, 2, 1] rfl rfl) hS d_C_feed_23
def wp_C_left (post : Int32 → Prop) (Nb : Nat) (c_latestSpent : Int32) (t_size : Int32) (t_at : Int32) (vb : Nat → Int32) : Prop :=
  wp_T_size (fun r_1 => post r_1) t_size t_at
abbrev rm_C_left : Room := { frames := 1, cells := 0, slots := 0, locals := 20 }
theorem mf_C_left : gFV y_C_left b_C_left 1 (some .int) 0 := ⟨w_100, w_1, ⟨by decide, by decide, by decide +kernel⟩, w_98, w_99⟩
set_option maxHeartbeats 4000000 in
set_option maxRecDepth 100000 in
theorem c_C_left (l : Launch) (D : va_G) (cI : ClassId) (h_c : Nat) (h_t : Nat) (h_b : Nat) (c_weights : Nat) (c_row : Nat) (c_trial : Nat) (c_tally : Nat) (Nb : Nat) (c_latestSpent : Int32) (t_size : Int32) (t_at : Int32) (vb : Nat → Int32) (post : Int32 → Prop) (hw : wp_C_left post Nb c_latestSpent t_size t_at vb) :
    gMi l D [(cI, .int)] y_C_left b_C_left 1 .int rm_C_left [.ref h_c] [(h_c, .inr (2, [.ref c_weights, .ref c_row, .ref h_t, .ref c_trial, .ref c_tally, .int c_latestSpent])), (h_t, .inr (1, [.ref h_b, .int t_size, .int t_at])), (h_b, .inl (cI, Nb, .inl vb))] (S := Unit) (fun u => [(h_c, .inr (2, [.ref c_weights, .ref c_row, .ref h_t, .ref c_trial, .ref c_tally, .int c_latestSpent])), (h_t, .inr (1, [.ref h_b, .int t_size, .int t_at])), (h_b, .inl (cI, Nb, .inl vb))]) (fun r u => post r) := by
  rw [wp_C_left] at hw
  refine gMi.of (by decide) (Nat.le_of_ble_eq_true rfl) (fun p e s m args below meth c A Q ls hx hb hml hown hts hN hK hA hP hD hret hl => ?_)
  have fx : CallFix p m c b_C_left 1 s args gG "TapeCounter" := ⟨hx, hb, hml, hown, hts⟩
  have hl : lv_has ls 1 [(0, .ref h_c)] := hl
  have hS : va_S A s.heap s.heap [] := va_S.rf
  refine lv_aload_n hx hb d_C_left_0 rfl (lv_at hl 0 rfl) ?_
  refine gGet fx hK hP 0 rfl inC rfl (k := 2) (by decide) w_57 rfl d_C_left_1 ?_
  refine g_cVi (wr := [(h_c, .inr (2, [.ref c_weights, .ref c_row, .ref h_t, .ref c_trial, .ref c_tally, .int c_latestSpent])), (h_b, .inl (cI, Nb, .inl vb))]) fx (c_T_size l D cI h_t h_b t_size t_at _ hw) mf_T_size w_93 ⟨rfl, rfl⟩ ⟨Nat.le_of_ble_eq_true rfl, Nat.le_of_ble_eq_true rfl⟩ hN hK hA hP hD hS [1] [0, 2] rfl rfl rfl rfl (by decide) 0 rfl rfl rfl rfl hl.1 (Nat.le_of_ble_eq_true rfl) d_C_left_4 ⟨Nat.zero_le _, Nat.zero_le _⟩ (fun r_1 u H locs hw hP hD hS => ?_)
  try dsimp only at hw
  have hP : va_P D gCl [(h_c, .inr (2, [.ref c_weights, .ref c_row, .ref h_t, .ref c_trial, .ref c_tally, .int c_latestSpent])), (h_b, .inl (cI, Nb, .inl vb)), (h_t, .inr (1, [.ref h_b, .int t_size, .int t_at]))] H := hP
  have hD : va_D A [(h_c, .inr (2, [.ref c_weights, .ref c_row, .ref h_t, .ref c_trial, .ref c_tally, .int c_latestSpent])), (h_b, .inl (cI, Nb, .inl vb)), (h_t, .inr (1, [.ref h_b, .int t_size, .int t_at]))] := hD
  exact hret _ _ _ () _ _ hw rfl (gSubP hP [0, 2, 1] rfl) (hD.sub [0, 2, 1] rfl rfl) hS d_C_left_7
def wp_C_spent (post : Int32 → Prop) (c_latestSpent : Int32) : Prop :=
  post c_latestSpent
abbrev rm_C_spent : Room := { frames := 0, cells := 0, slots := 0, locals := 0 }
theorem mf_C_spent : gFV y_C_spent b_C_spent 1 (some .int) 0 := ⟨w_178, w_1, ⟨by decide, by decide, by decide +kernel⟩, w_176, w_177⟩
set_option maxHeartbeats 4000000 in
set_option maxRecDepth 100000 in
theorem c_C_spent (l : Launch) (D : va_G) (cI : ClassId) (h_c : Nat) (c_weights : Nat) (c_row : Nat) (c_tape : Nat) (c_trial : Nat) (c_tally : Nat) (c_latestSpent : Int32) (post : Int32 → Prop) (hw : wp_C_spent post c_latestSpent) :
    gMi l D [(cI, .int)] y_C_spent b_C_spent 1 .int rm_C_spent [.ref h_c] [(h_c, .inr (2, [.ref c_weights, .ref c_row, .ref c_tape, .ref c_trial, .ref c_tally, .int c_latestSpent]))] (S := Unit) (fun u => [(h_c, .inr (2, [.ref c_weights, .ref c_row, .ref c_tape, .ref c_trial, .ref c_tally, .int c_latestSpent]))]) (fun r u => post r) := by
  rw [wp_C_spent] at hw
  refine gMi.of (by decide) (Nat.le_of_ble_eq_true rfl) (fun p e s m args below meth c A Q ls hx hb hml hown hts hN hK hA hP hD hret hl => ?_)
  have fx : CallFix p m c b_C_spent 1 s args gG "TapeCounter" := ⟨hx, hb, hml, hown, hts⟩
  have hl : lv_has ls 1 [(0, .ref h_c)] := hl
  have hS : va_S A s.heap s.heap [] := va_S.rf
  refine lv_aload_n hx hb d_C_spent_0 rfl (lv_at hl 0 rfl) ?_
  refine gGet fx hK hP 0 rfl inC rfl (k := 5) (by decide) w_60 rfl d_C_spent_1 ?_
  exact hret _ _ _ () _ _ hw rfl hP hD hS d_C_spent_4
def wp_C_isOne (post : Int32 → Prop) (c_latestSpent : Int32) (vw : Nat → Int32) (x1 : Int32) (x2 : Int32) (x3 : Int32) : Prop :=
  ((x1 = nI 0 → wp_C_isWithin (fun r_1 => ((r_1 = nI 0 ∨ r_1 = nI 1) ∧ post r_1)) x2 (nI 1) (nI 64)) ∧ (¬ x1 = nI 0 → ((x1 = nI 1 → wp_C_isWithin (fun r_2 => ((r_2 = nI 0 ∨ r_2 = nI 1) ∧ post r_2)) x2 (nI 1) (nI 64)) ∧ (¬ x1 = nI 1 → ((x1 = nI 2 → wp_C_isWithin (fun r_3 => ((r_3 = 0 → post (nI 0)) ∧ (¬ r_3 = 0 → wp_C_isWithin (fun r_4 => ((r_4 = 0 → post (nI 0)) ∧ (¬ r_4 = 0 → post (nI 1)))) x2 (nI 0) x3))) x3 (nI 1) (nI 64)) ∧ (¬ x1 = nI 2 → ((x1 = nI 3 → wp_C_isWithin (fun r_5 => ((r_5 = nI 0 ∨ r_5 = nI 1) ∧ post r_5)) x2 (nI 0) (nI 12)) ∧ (¬ x1 = nI 3 → ((x1 = nI 4 → wp_C_isWithin (fun r_6 => ((r_6 = nI 0 ∨ r_6 = nI 1) ∧ post r_6)) x2 (nI 0) (nI 12)) ∧ (¬ x1 = nI 4 → ((x1 = nI 5 → wp_C_isWithin (fun r_7 => ((r_7 = nI 0 ∨ r_7 = nI 1) ∧ post r_7)) x2 (nI 1) (nI 4)) ∧ (¬ x1 = nI 5 → ((x1 = nI 6 → wp_C_isWithin (fun r_8 => ((r_8 = 0 → post (nI 0)) ∧ (¬ r_8 = 0 → wp_C_isWithin (fun r_9 => ((r_9 = 0 → post (nI 0)) ∧ (¬ r_9 = 0 → post (nI 1)))) x3 (nI 0) x2))) x2 (nI 1) (nI 6)) ∧ (¬ x1 = nI 6 → ((x1 = nI 7 → wp_C_weightSum (fun r_10 => wp_C_isWithin (fun r_11 => ((r_11 = nI 0 ∨ r_11 = nI 1) ∧ post r_11)) r_10 (nI 1) (nI 64)) c_latestSpent vw) ∧ (¬ x1 = nI 7 → post (nI 0)))))))))))))))))
abbrev rm_C_isOne : Room := { frames := 1, cells := 0, slots := 0, locals := 22 }
theorem mf_C_isOne : gFV y_C_isOne b_C_isOne 4 (some .boolean) 3 := ⟨w_104, w_1, ⟨by decide, by decide, by decide +kernel⟩, w_102, w_103⟩
set_option maxHeartbeats 4000000 in
set_option maxRecDepth 100000 in
theorem c_C_isOne (l : Launch) (D : va_G) (cI : ClassId) (h_c : Nat) (h_w : Nat) (c_row : Nat) (c_tape : Nat) (c_trial : Nat) (c_tally : Nat) (c_latestSpent : Int32) (vw : Nat → Int32) (x1 : Int32) (x2 : Int32) (x3 : Int32) (post : Int32 → Prop) (hw : wp_C_isOne post c_latestSpent vw x1 x2 x3) :
    gMi l D [(cI, .int)] y_C_isOne b_C_isOne 4 .boolean rm_C_isOne [.ref h_c, .int x1, .int x2, .int x3] [(h_c, .inr (2, [.ref h_w, .ref c_row, .ref c_tape, .ref c_trial, .ref c_tally, .int c_latestSpent])), (h_w, .inl (cI, 8, .inl vw))] (S := Unit) (fun u => [(h_c, .inr (2, [.ref h_w, .ref c_row, .ref c_tape, .ref c_trial, .ref c_tally, .int c_latestSpent])), (h_w, .inl (cI, 8, .inl vw))]) (fun r u => post r) := by
  rw [wp_C_isOne] at hw
  refine gMi.of (by decide) (Nat.le_of_ble_eq_true rfl) (fun p e s m args below meth c A Q ls hx hb hml hown hts hN hK hA hP hD hret hl => ?_)
  have fx : CallFix p m c b_C_isOne 4 s args gG "TapeCounter" := ⟨hx, hb, hml, hown, hts⟩
  have hl : lv_has ls 4 [(0, .ref h_c), (1, .int x1), (2, .int x2), (3, .int x3)] := hl
  have hS : va_S A s.heap s.heap [] := va_S.rf
  refine lv_iload_n hx hb d_C_isOne_0 rfl (lv_at hl 1 rfl) ?_
  rcases Classical.em (x1 = nI 0) with c1_0 | c1_0
  · have hw := hw.1 c1_0
    refine g_sw (nI 0) (tgt := 48) hx hb d_C_isOne_1 c1_0 (by decide) (by decide) rfl (by decide) ?_
    refine lv_iload_n hx hb d_C_isOne_48 rfl (lv_at hl 2 rfl) ?_
    refine lv_iconst (v := (nI 1)) hx hb d_C_isOne_49 (by decide) ?_
    refine lv_bipush (v := (nI 64)) hx hb d_C_isOne_50 (by decide) ?_
    refine g_cSi (wr := [(h_c, .inr (2, [.ref h_w, .ref c_row, .ref c_tape, .ref c_trial, .ref c_tally, .int c_latestSpent])), (h_w, .inl (cI, 8, .inl vw))]) fx (c_C_isWithin l D cI  x2 (nI 1) (nI 64) _ hw) mf_C_isWithin w_78 ⟨rfl, rfl⟩ ⟨Nat.le_of_ble_eq_true rfl, Nat.le_of_ble_eq_true rfl⟩ hN hK hA hP hD hS [] [0, 1] rfl rfl rfl rfl (by decide) rfl rfl hl.1 (Nat.le_of_ble_eq_true rfl) d_C_isOne_52 ⟨Nat.zero_le _, Nat.zero_le _⟩ (fun r_1 u H locs hw hP hD hS => ?_)
    try dsimp only at hw
    have hP : va_P D gCl [(h_c, .inr (2, [.ref h_w, .ref c_row, .ref c_tape, .ref c_trial, .ref c_tally, .int c_latestSpent])), (h_w, .inl (cI, 8, .inl vw))] H := hP
    have hD : va_D A [(h_c, .inr (2, [.ref h_w, .ref c_row, .ref c_tape, .ref c_trial, .ref c_tally, .int c_latestSpent])), (h_w, .inl (cI, 8, .inl vw))] := hD
    exact hret _ _ _ () _ _ hw.2 (gBool hw.1) hP hD hS d_C_isOne_55
  · have hw := hw.2 c1_0
    rcases Classical.em (x1 = nI 1) with c1_1 | c1_1
    · have hw := hw.1 c1_1
      refine g_sw (nI 1) (tgt := 48) hx hb d_C_isOne_1 c1_1 (by decide) (by decide) rfl (by decide) ?_
      refine lv_iload_n hx hb d_C_isOne_48 rfl (lv_at hl 2 rfl) ?_
      refine lv_iconst (v := (nI 1)) hx hb d_C_isOne_49 (by decide) ?_
      refine lv_bipush (v := (nI 64)) hx hb d_C_isOne_50 (by decide) ?_
      refine g_cSi (wr := [(h_c, .inr (2, [.ref h_w, .ref c_row, .ref c_tape, .ref c_trial, .ref c_tally, .int c_latestSpent])), (h_w, .inl (cI, 8, .inl vw))]) fx (c_C_isWithin l D cI  x2 (nI 1) (nI 64) _ hw) mf_C_isWithin w_78 ⟨rfl, rfl⟩ ⟨Nat.le_of_ble_eq_true rfl, Nat.le_of_ble_eq_true rfl⟩ hN hK hA hP hD hS [] [0, 1] rfl rfl rfl rfl (by decide) rfl rfl hl.1 (Nat.le_of_ble_eq_true rfl) d_C_isOne_52 ⟨Nat.zero_le _, Nat.zero_le _⟩ (fun r_2 u H locs hw hP hD hS => ?_)
      try dsimp only at hw
      have hP : va_P D gCl [(h_c, .inr (2, [.ref h_w, .ref c_row, .ref c_tape, .ref c_trial, .ref c_tally, .int c_latestSpent])), (h_w, .inl (cI, 8, .inl vw))] H := hP
      have hD : va_D A [(h_c, .inr (2, [.ref h_w, .ref c_row, .ref c_tape, .ref c_trial, .ref c_tally, .int c_latestSpent])), (h_w, .inl (cI, 8, .inl vw))] := hD
      exact hret _ _ _ () _ _ hw.2 (gBool hw.1) hP hD hS d_C_isOne_55
    · have hw := hw.2 c1_1
      rcases Classical.em (x1 = nI 2) with c1_2 | c1_2
      · have hw := hw.1 c1_2
        refine g_sw (nI 2) (tgt := 56) hx hb d_C_isOne_1 c1_2 (by decide) (by decide) rfl (by decide) ?_
        refine lv_iload_n hx hb d_C_isOne_56 rfl (lv_at hl 3 rfl) ?_
        refine lv_iconst (v := (nI 1)) hx hb d_C_isOne_57 (by decide) ?_
        refine lv_bipush (v := (nI 64)) hx hb d_C_isOne_58 (by decide) ?_
        refine g_cSi (wr := [(h_c, .inr (2, [.ref h_w, .ref c_row, .ref c_tape, .ref c_trial, .ref c_tally, .int c_latestSpent])), (h_w, .inl (cI, 8, .inl vw))]) fx (c_C_isWithin l D cI  x3 (nI 1) (nI 64) _ hw) mf_C_isWithin w_78 ⟨rfl, rfl⟩ ⟨Nat.le_of_ble_eq_true rfl, Nat.le_of_ble_eq_true rfl⟩ hN hK hA hP hD hS [] [0, 1] rfl rfl rfl rfl (by decide) rfl rfl hl.1 (Nat.le_of_ble_eq_true rfl) d_C_isOne_60 ⟨Nat.zero_le _, Nat.zero_le _⟩ (fun r_3 u H locs hw hP hD hS => ?_)
        try dsimp only at hw
        have hP : va_P D gCl [(h_c, .inr (2, [.ref h_w, .ref c_row, .ref c_tape, .ref c_trial, .ref c_tally, .int c_latestSpent])), (h_w, .inl (cI, 8, .inl vw))] H := hP
        have hD : va_D A [(h_c, .inr (2, [.ref h_w, .ref c_row, .ref c_tape, .ref c_trial, .ref c_tally, .int c_latestSpent])), (h_w, .inl (cI, 8, .inl vw))] := hD
        refine lv_if_eq (tgt := 79) hx hb d_C_isOne_63 (by decide) (fun c63 => ?_) (fun c63 => ?_)
        · have hw := hw.1 c63
          refine lv_iconst (v := (nI 0)) hx hb d_C_isOne_79 (by decide) ?_
          exact hret _ _ _ () _ _ hw rfl hP hD hS d_C_isOne_80
        · have hw := hw.2 c63
          refine lv_iload_n hx hb d_C_isOne_66 rfl (lv_at hl 2 rfl) ?_
          refine lv_iconst (v := (nI 0)) hx hb d_C_isOne_67 (by decide) ?_
          refine lv_iload_n hx hb d_C_isOne_68 rfl (lv_at hl 3 rfl) ?_
          refine g_cSi (wr := [(h_c, .inr (2, [.ref h_w, .ref c_row, .ref c_tape, .ref c_trial, .ref c_tally, .int c_latestSpent])), (h_w, .inl (cI, 8, .inl vw))]) fx (c_C_isWithin l D cI  x2 (nI 0) x3 _ hw) mf_C_isWithin w_78 ⟨rfl, rfl⟩ ⟨Nat.le_of_ble_eq_true rfl, Nat.le_of_ble_eq_true rfl⟩ hN hK hA hP hD hS [] [0, 1] rfl rfl rfl rfl (by decide) rfl rfl hl.1 (Nat.le_of_ble_eq_true rfl) d_C_isOne_69 ⟨Nat.zero_le _, Nat.zero_le _⟩ (fun r_4 u H locs hw hP hD hS => ?_)
          try dsimp only at hw
          have hP : va_P D gCl [(h_c, .inr (2, [.ref h_w, .ref c_row, .ref c_tape, .ref c_trial, .ref c_tally, .int c_latestSpent])), (h_w, .inl (cI, 8, .inl vw))] H := hP
          have hD : va_D A [(h_c, .inr (2, [.ref h_w, .ref c_row, .ref c_tape, .ref c_trial, .ref c_tally, .int c_latestSpent])), (h_w, .inl (cI, 8, .inl vw))] := hD
          refine lv_if_eq (tgt := 79) hx hb d_C_isOne_72 (by decide) (fun c72 => ?_) (fun c72 => ?_)
          · have hw := hw.1 c72
            refine lv_iconst (v := (nI 0)) hx hb d_C_isOne_79 (by decide) ?_
            exact hret _ _ _ () _ _ hw rfl hP hD hS d_C_isOne_80
          · have hw := hw.2 c72
            refine lv_iconst (v := (nI 1)) hx hb d_C_isOne_75 (by decide) ?_
            refine lv_goto (tgt := 80) hx hb d_C_isOne_76 (by decide) ?_
            exact hret _ _ _ () _ _ hw rfl hP hD hS d_C_isOne_80
      · have hw := hw.2 c1_2
        rcases Classical.em (x1 = nI 3) with c1_3 | c1_3
        · have hw := hw.1 c1_3
          refine g_sw (nI 3) (tgt := 81) hx hb d_C_isOne_1 c1_3 (by decide) (by decide) rfl (by decide) ?_
          refine lv_iload_n hx hb d_C_isOne_81 rfl (lv_at hl 2 rfl) ?_
          refine lv_iconst (v := (nI 0)) hx hb d_C_isOne_82 (by decide) ?_
          refine lv_bipush (v := (nI 12)) hx hb d_C_isOne_83 (by decide) ?_
          refine g_cSi (wr := [(h_c, .inr (2, [.ref h_w, .ref c_row, .ref c_tape, .ref c_trial, .ref c_tally, .int c_latestSpent])), (h_w, .inl (cI, 8, .inl vw))]) fx (c_C_isWithin l D cI  x2 (nI 0) (nI 12) _ hw) mf_C_isWithin w_78 ⟨rfl, rfl⟩ ⟨Nat.le_of_ble_eq_true rfl, Nat.le_of_ble_eq_true rfl⟩ hN hK hA hP hD hS [] [0, 1] rfl rfl rfl rfl (by decide) rfl rfl hl.1 (Nat.le_of_ble_eq_true rfl) d_C_isOne_85 ⟨Nat.zero_le _, Nat.zero_le _⟩ (fun r_5 u H locs hw hP hD hS => ?_)
          try dsimp only at hw
          have hP : va_P D gCl [(h_c, .inr (2, [.ref h_w, .ref c_row, .ref c_tape, .ref c_trial, .ref c_tally, .int c_latestSpent])), (h_w, .inl (cI, 8, .inl vw))] H := hP
          have hD : va_D A [(h_c, .inr (2, [.ref h_w, .ref c_row, .ref c_tape, .ref c_trial, .ref c_tally, .int c_latestSpent])), (h_w, .inl (cI, 8, .inl vw))] := hD
          exact hret _ _ _ () _ _ hw.2 (gBool hw.1) hP hD hS d_C_isOne_88
        · have hw := hw.2 c1_3
          rcases Classical.em (x1 = nI 4) with c1_4 | c1_4
          · have hw := hw.1 c1_4
            refine g_sw (nI 4) (tgt := 81) hx hb d_C_isOne_1 c1_4 (by decide) (by decide) rfl (by decide) ?_
            refine lv_iload_n hx hb d_C_isOne_81 rfl (lv_at hl 2 rfl) ?_
            refine lv_iconst (v := (nI 0)) hx hb d_C_isOne_82 (by decide) ?_
            refine lv_bipush (v := (nI 12)) hx hb d_C_isOne_83 (by decide) ?_
            refine g_cSi (wr := [(h_c, .inr (2, [.ref h_w, .ref c_row, .ref c_tape, .ref c_trial, .ref c_tally, .int c_latestSpent])), (h_w, .inl (cI, 8, .inl vw))]) fx (c_C_isWithin l D cI  x2 (nI 0) (nI 12) _ hw) mf_C_isWithin w_78 ⟨rfl, rfl⟩ ⟨Nat.le_of_ble_eq_true rfl, Nat.le_of_ble_eq_true rfl⟩ hN hK hA hP hD hS [] [0, 1] rfl rfl rfl rfl (by decide) rfl rfl hl.1 (Nat.le_of_ble_eq_true rfl) d_C_isOne_85 ⟨Nat.zero_le _, Nat.zero_le _⟩ (fun r_6 u H locs hw hP hD hS => ?_)
            try dsimp only at hw
            have hP : va_P D gCl [(h_c, .inr (2, [.ref h_w, .ref c_row, .ref c_tape, .ref c_trial, .ref c_tally, .int c_latestSpent])), (h_w, .inl (cI, 8, .inl vw))] H := hP
            have hD : va_D A [(h_c, .inr (2, [.ref h_w, .ref c_row, .ref c_tape, .ref c_trial, .ref c_tally, .int c_latestSpent])), (h_w, .inl (cI, 8, .inl vw))] := hD
            exact hret _ _ _ () _ _ hw.2 (gBool hw.1) hP hD hS d_C_isOne_88
          · have hw := hw.2 c1_4
            rcases Classical.em (x1 = nI 5) with c1_5 | c1_5
            · have hw := hw.1 c1_5
              refine g_sw (nI 5) (tgt := 89) hx hb d_C_isOne_1 c1_5 (by decide) (by decide) rfl (by decide) ?_
              refine lv_iload_n hx hb d_C_isOne_89 rfl (lv_at hl 2 rfl) ?_
              refine lv_iconst (v := (nI 1)) hx hb d_C_isOne_90 (by decide) ?_
              refine lv_iconst (v := (nI 4)) hx hb d_C_isOne_91 (by decide) ?_
              refine g_cSi (wr := [(h_c, .inr (2, [.ref h_w, .ref c_row, .ref c_tape, .ref c_trial, .ref c_tally, .int c_latestSpent])), (h_w, .inl (cI, 8, .inl vw))]) fx (c_C_isWithin l D cI  x2 (nI 1) (nI 4) _ hw) mf_C_isWithin w_78 ⟨rfl, rfl⟩ ⟨Nat.le_of_ble_eq_true rfl, Nat.le_of_ble_eq_true rfl⟩ hN hK hA hP hD hS [] [0, 1] rfl rfl rfl rfl (by decide) rfl rfl hl.1 (Nat.le_of_ble_eq_true rfl) d_C_isOne_92 ⟨Nat.zero_le _, Nat.zero_le _⟩ (fun r_7 u H locs hw hP hD hS => ?_)
              try dsimp only at hw
              have hP : va_P D gCl [(h_c, .inr (2, [.ref h_w, .ref c_row, .ref c_tape, .ref c_trial, .ref c_tally, .int c_latestSpent])), (h_w, .inl (cI, 8, .inl vw))] H := hP
              have hD : va_D A [(h_c, .inr (2, [.ref h_w, .ref c_row, .ref c_tape, .ref c_trial, .ref c_tally, .int c_latestSpent])), (h_w, .inl (cI, 8, .inl vw))] := hD
              exact hret _ _ _ () _ _ hw.2 (gBool hw.1) hP hD hS d_C_isOne_95
            · have hw := hw.2 c1_5
              rcases Classical.em (x1 = nI 6) with c1_6 | c1_6
              · have hw := hw.1 c1_6
                refine g_sw (nI 6) (tgt := 96) hx hb d_C_isOne_1 c1_6 (by decide) (by decide) rfl (by decide) ?_
                refine lv_iload_n hx hb d_C_isOne_96 rfl (lv_at hl 2 rfl) ?_
                refine lv_iconst (v := (nI 1)) hx hb d_C_isOne_97 (by decide) ?_
                refine lv_bipush (v := (nI 6)) hx hb d_C_isOne_98 (by decide) ?_
                refine g_cSi (wr := [(h_c, .inr (2, [.ref h_w, .ref c_row, .ref c_tape, .ref c_trial, .ref c_tally, .int c_latestSpent])), (h_w, .inl (cI, 8, .inl vw))]) fx (c_C_isWithin l D cI  x2 (nI 1) (nI 6) _ hw) mf_C_isWithin w_78 ⟨rfl, rfl⟩ ⟨Nat.le_of_ble_eq_true rfl, Nat.le_of_ble_eq_true rfl⟩ hN hK hA hP hD hS [] [0, 1] rfl rfl rfl rfl (by decide) rfl rfl hl.1 (Nat.le_of_ble_eq_true rfl) d_C_isOne_100 ⟨Nat.zero_le _, Nat.zero_le _⟩ (fun r_8 u H locs hw hP hD hS => ?_)
                try dsimp only at hw
                have hP : va_P D gCl [(h_c, .inr (2, [.ref h_w, .ref c_row, .ref c_tape, .ref c_trial, .ref c_tally, .int c_latestSpent])), (h_w, .inl (cI, 8, .inl vw))] H := hP
                have hD : va_D A [(h_c, .inr (2, [.ref h_w, .ref c_row, .ref c_tape, .ref c_trial, .ref c_tally, .int c_latestSpent])), (h_w, .inl (cI, 8, .inl vw))] := hD
                refine lv_if_eq (tgt := 119) hx hb d_C_isOne_103 (by decide) (fun c103 => ?_) (fun c103 => ?_)
                · have hw := hw.1 c103
                  refine lv_iconst (v := (nI 0)) hx hb d_C_isOne_119 (by decide) ?_
                  exact hret _ _ _ () _ _ hw rfl hP hD hS d_C_isOne_120
                · have hw := hw.2 c103
                  refine lv_iload_n hx hb d_C_isOne_106 rfl (lv_at hl 3 rfl) ?_
                  refine lv_iconst (v := (nI 0)) hx hb d_C_isOne_107 (by decide) ?_
                  refine lv_iload_n hx hb d_C_isOne_108 rfl (lv_at hl 2 rfl) ?_
                  refine g_cSi (wr := [(h_c, .inr (2, [.ref h_w, .ref c_row, .ref c_tape, .ref c_trial, .ref c_tally, .int c_latestSpent])), (h_w, .inl (cI, 8, .inl vw))]) fx (c_C_isWithin l D cI  x3 (nI 0) x2 _ hw) mf_C_isWithin w_78 ⟨rfl, rfl⟩ ⟨Nat.le_of_ble_eq_true rfl, Nat.le_of_ble_eq_true rfl⟩ hN hK hA hP hD hS [] [0, 1] rfl rfl rfl rfl (by decide) rfl rfl hl.1 (Nat.le_of_ble_eq_true rfl) d_C_isOne_109 ⟨Nat.zero_le _, Nat.zero_le _⟩ (fun r_9 u H locs hw hP hD hS => ?_)
                  try dsimp only at hw
                  have hP : va_P D gCl [(h_c, .inr (2, [.ref h_w, .ref c_row, .ref c_tape, .ref c_trial, .ref c_tally, .int c_latestSpent])), (h_w, .inl (cI, 8, .inl vw))] H := hP
                  have hD : va_D A [(h_c, .inr (2, [.ref h_w, .ref c_row, .ref c_tape, .ref c_trial, .ref c_tally, .int c_latestSpent])), (h_w, .inl (cI, 8, .inl vw))] := hD
                  refine lv_if_eq (tgt := 119) hx hb d_C_isOne_112 (by decide) (fun c112 => ?_) (fun c112 => ?_)
                  · have hw := hw.1 c112
                    refine lv_iconst (v := (nI 0)) hx hb d_C_isOne_119 (by decide) ?_
                    exact hret _ _ _ () _ _ hw rfl hP hD hS d_C_isOne_120
                  · have hw := hw.2 c112
                    refine lv_iconst (v := (nI 1)) hx hb d_C_isOne_115 (by decide) ?_
                    refine lv_goto (tgt := 120) hx hb d_C_isOne_116 (by decide) ?_
                    exact hret _ _ _ () _ _ hw rfl hP hD hS d_C_isOne_120
              · have hw := hw.2 c1_6
                rcases Classical.em (x1 = nI 7) with c1_7 | c1_7
                · have hw := hw.1 c1_7
                  refine g_sw (nI 7) (tgt := 121) hx hb d_C_isOne_1 c1_7 (by decide) (by decide) rfl (by decide) ?_
                  refine lv_aload_n hx hb d_C_isOne_121 rfl (lv_at hl 0 rfl) ?_
                  refine g_cVi (wr := []) fx (c_C_weightSum l D cI h_c h_w c_row c_tape c_trial c_tally c_latestSpent vw _ hw) mf_C_weightSum w_105 ⟨rfl, rfl⟩ ⟨Nat.le_of_ble_eq_true rfl, Nat.le_of_ble_eq_true rfl⟩ hN hK hA hP hD hS [0, 1] [] rfl rfl rfl rfl (by decide) 0 rfl rfl rfl rfl hl.1 (Nat.le_of_ble_eq_true rfl) d_C_isOne_122 ⟨Nat.zero_le _, Nat.zero_le _⟩ (fun r_10 u H locs hw hP hD hS => ?_)
                  try dsimp only at hw
                  have hP : va_P D gCl [(h_c, .inr (2, [.ref h_w, .ref c_row, .ref c_tape, .ref c_trial, .ref c_tally, .int c_latestSpent])), (h_w, .inl (cI, 8, .inl vw))] H := hP
                  have hD : va_D A [(h_c, .inr (2, [.ref h_w, .ref c_row, .ref c_tape, .ref c_trial, .ref c_tally, .int c_latestSpent])), (h_w, .inl (cI, 8, .inl vw))] := hD
                  refine lv_iconst (v := (nI 1)) hx hb d_C_isOne_125 (by decide) ?_
                  refine lv_bipush (v := (nI 64)) hx hb d_C_isOne_126 (by decide) ?_
                  refine g_cSi (wr := [(h_c, .inr (2, [.ref h_w, .ref c_row, .ref c_tape, .ref c_trial, .ref c_tally, .int c_latestSpent])), (h_w, .inl (cI, 8, .inl vw))]) fx (c_C_isWithin l D cI  r_10 (nI 1) (nI 64) _ hw) mf_C_isWithin w_78 ⟨rfl, rfl⟩ ⟨Nat.le_of_ble_eq_true rfl, Nat.le_of_ble_eq_true rfl⟩ hN hK hA hP hD hS [] [0, 1] rfl rfl rfl rfl (by decide) rfl rfl hl.1 (Nat.le_of_ble_eq_true rfl) d_C_isOne_128 ⟨Nat.zero_le _, Nat.zero_le _⟩ (fun r_11 u H locs hw hP hD hS => ?_)
                  try dsimp only at hw
                  have hP : va_P D gCl [(h_c, .inr (2, [.ref h_w, .ref c_row, .ref c_tape, .ref c_trial, .ref c_tally, .int c_latestSpent])), (h_w, .inl (cI, 8, .inl vw))] H := hP
                  have hD : va_D A [(h_c, .inr (2, [.ref h_w, .ref c_row, .ref c_tape, .ref c_trial, .ref c_tally, .int c_latestSpent])), (h_w, .inl (cI, 8, .inl vw))] := hD
                  exact hret _ _ _ () _ _ hw.2 (gBool hw.1) hP hD hS d_C_isOne_131
                · have hw := hw.2 c1_7
                  refine lv_tableOut (tgt := 132) hx hb d_C_isOne_1 (by have h := g_out (x := x1) (n := 8) (by decide) (fun j hj => by rcases (show j = 0 ∨ j = 1 ∨ j = 2 ∨ j = 3 ∨ j = 4 ∨ j = 5 ∨ j = 6 ∨ j = 7 by omega) with rfl | rfl | rfl | rfl | rfl | rfl | rfl | rfl <;> assumption); omega) (by decide) ?_
                  refine lv_iconst (v := (nI 0)) hx hb d_C_isOne_132 (by decide) ?_
                  exact hret _ _ _ () _ _ hw rfl hP hD hS d_C_isOne_133
def wp_C_isCountable (post : Int32 → Prop) (c_latestSpent : Int32) (vw : Nat → Int32) (x1 : Int32) (x2 : Int32) (x3 : Int32) (x4 : Int32) : Prop :=
  wp_C_isWithin (fun r_1 => ((r_1 = 0 → post (nI 0)) ∧ (¬ r_1 = 0 → wp_C_isOne (fun r_2 => ((r_2 = 0 → post (nI 0)) ∧ (¬ r_2 = 0 → post (nI 1)))) c_latestSpent vw x1 x2 x3))) x4 (nI 0) (nI 12)
abbrev rm_C_isCountable : Room := { frames := 2, cells := 0, slots := 0, locals := 45 }
theorem mf_C_isCountable : gFV y_C_isCountable b_C_isCountable 5 (some .boolean) 4 := ⟨w_186, w_1, ⟨by decide, by decide, by decide +kernel⟩, w_185, ws_1_5⟩
set_option maxHeartbeats 4000000 in
set_option maxRecDepth 100000 in
theorem c_C_isCountable (l : Launch) (D : va_G) (cI : ClassId) (h_c : Nat) (h_w : Nat) (c_row : Nat) (c_tape : Nat) (c_trial : Nat) (c_tally : Nat) (c_latestSpent : Int32) (vw : Nat → Int32) (x1 : Int32) (x2 : Int32) (x3 : Int32) (x4 : Int32) (post : Int32 → Prop) (hw : wp_C_isCountable post c_latestSpent vw x1 x2 x3 x4) :
    gMi l D [(cI, .int)] y_C_isCountable b_C_isCountable 5 .boolean rm_C_isCountable [.ref h_c, .int x1, .int x2, .int x3, .int x4] [(h_c, .inr (2, [.ref h_w, .ref c_row, .ref c_tape, .ref c_trial, .ref c_tally, .int c_latestSpent])), (h_w, .inl (cI, 8, .inl vw))] (S := Unit) (fun u => [(h_c, .inr (2, [.ref h_w, .ref c_row, .ref c_tape, .ref c_trial, .ref c_tally, .int c_latestSpent])), (h_w, .inl (cI, 8, .inl vw))]) (fun r u => post r) := by
  rw [wp_C_isCountable] at hw
  refine gMi.of (by decide) (Nat.le_of_ble_eq_true rfl) (fun p e s m args below meth c A Q ls hx hb hml hown hts hN hK hA hP hD hret hl => ?_)
  have fx : CallFix p m c b_C_isCountable 5 s args gG "TapeCounter" := ⟨hx, hb, hml, hown, hts⟩
  have hl : lv_has ls 5 [(0, .ref h_c), (1, .int x1), (2, .int x2), (3, .int x3), (4, .int x4)] := hl
  have hS : va_S A s.heap s.heap [] := va_S.rf
  refine lv_iload hx hb d_C_isCountable_0 (lv_at hl 4 rfl) ?_
  refine lv_iconst (v := (nI 0)) hx hb d_C_isCountable_2 (by decide) ?_
  refine lv_bipush (v := (nI 12)) hx hb d_C_isCountable_3 (by decide) ?_
  refine g_cSi (wr := [(h_c, .inr (2, [.ref h_w, .ref c_row, .ref c_tape, .ref c_trial, .ref c_tally, .int c_latestSpent])), (h_w, .inl (cI, 8, .inl vw))]) fx (c_C_isWithin l D cI  x4 (nI 0) (nI 12) _ hw) mf_C_isWithin w_78 ⟨rfl, rfl⟩ ⟨Nat.le_of_ble_eq_true rfl, Nat.le_of_ble_eq_true rfl⟩ hN hK hA hP hD hS [] [0, 1] rfl rfl rfl rfl (by decide) rfl rfl hl.1 (Nat.le_of_ble_eq_true rfl) d_C_isCountable_5 ⟨Nat.zero_le _, Nat.zero_le _⟩ (fun r_1 u H locs hw hP hD hS => ?_)
  try dsimp only at hw
  have hP : va_P D gCl [(h_c, .inr (2, [.ref h_w, .ref c_row, .ref c_tape, .ref c_trial, .ref c_tally, .int c_latestSpent])), (h_w, .inl (cI, 8, .inl vw))] H := hP
  have hD : va_D A [(h_c, .inr (2, [.ref h_w, .ref c_row, .ref c_tape, .ref c_trial, .ref c_tally, .int c_latestSpent])), (h_w, .inl (cI, 8, .inl vw))] := hD
  refine lv_if_eq (tgt := 25) hx hb d_C_isCountable_8 (by decide) (fun c8 => ?_) (fun c8 => ?_)
  · have hw := hw.1 c8
    refine lv_iconst (v := (nI 0)) hx hb d_C_isCountable_25 (by decide) ?_
    exact hret _ _ _ () _ _ hw rfl hP hD hS d_C_isCountable_26
  · have hw := hw.2 c8
    refine lv_aload_n hx hb d_C_isCountable_11 rfl (lv_at hl 0 rfl) ?_
    refine lv_iload_n hx hb d_C_isCountable_12 rfl (lv_at hl 1 rfl) ?_
    refine lv_iload_n hx hb d_C_isCountable_13 rfl (lv_at hl 2 rfl) ?_
    refine lv_iload_n hx hb d_C_isCountable_14 rfl (lv_at hl 3 rfl) ?_
    refine g_cVi (wr := []) fx (c_C_isOne l D cI h_c h_w c_row c_tape c_trial c_tally c_latestSpent vw x1 x2 x3 _ hw) mf_C_isOne w_113 ⟨rfl, rfl⟩ ⟨Nat.le_of_ble_eq_true rfl, Nat.le_of_ble_eq_true rfl⟩ hN hK hA hP hD hS [0, 1] [] rfl rfl rfl rfl (by decide) 0 rfl rfl rfl rfl hl.1 (Nat.le_of_ble_eq_true rfl) d_C_isCountable_15 ⟨Nat.zero_le _, Nat.zero_le _⟩ (fun r_2 u H locs hw hP hD hS => ?_)
    try dsimp only at hw
    have hP : va_P D gCl [(h_c, .inr (2, [.ref h_w, .ref c_row, .ref c_tape, .ref c_trial, .ref c_tally, .int c_latestSpent])), (h_w, .inl (cI, 8, .inl vw))] H := hP
    have hD : va_D A [(h_c, .inr (2, [.ref h_w, .ref c_row, .ref c_tape, .ref c_trial, .ref c_tally, .int c_latestSpent])), (h_w, .inl (cI, 8, .inl vw))] := hD
    refine lv_if_eq (tgt := 25) hx hb d_C_isCountable_18 (by decide) (fun c18 => ?_) (fun c18 => ?_)
    · have hw := hw.1 c18
      refine lv_iconst (v := (nI 0)) hx hb d_C_isCountable_25 (by decide) ?_
      exact hret _ _ _ () _ _ hw rfl hP hD hS d_C_isCountable_26
    · have hw := hw.2 c18
      refine lv_iconst (v := (nI 1)) hx hb d_C_isCountable_21 (by decide) ?_
      refine lv_goto (tgt := 26) hx hb d_C_isCountable_22 (by decide) ?_
      exact hret _ _ _ () _ _ hw rfl hP hD hS d_C_isCountable_26
def wpF_C_ordersBeforeRow_17 (K_4 : Int32 → Int32 → Prop) (vr : Nat → Int32) (x1 : Int32) (x2 : Int32) (x3 : Int32) (K_17 : Int32 → Int32 → Prop) (x4 : Int32) (x5 : Int32) : Prop :=
  ((x1 ≤ x5 → K_4 ((x2 * (x1 - x3)) + x4) (x3 + (nI 1))) ∧ (¬ x1 ≤ x5 → (vp_in x5 4 ∧ (vp_in x3 4 ∧ (((vr (x3).toNatClampNeg) ≤ (vr (x5).toNatClampNeg) → K_17 x4 (x5 + (nI 1))) ∧ (¬ (vr (x3).toNatClampNeg) ≤ (vr (x5).toNatClampNeg) → K_17 (x4 + (nI 1)) (x5 + (nI 1))))))))
def wpF_C_ordersBeforeRow_4 (post : Int32 → Prop) (vr : Nat → Int32) (x1 : Int32) (K_4 : Int32 → Int32 → Prop) (x2 : Int32) (x3 : Int32) : Prop :=
  ((x1 ≤ x3 → post x2) ∧ (¬ x1 ≤ x3 → (∃ n, gL2 (wpF_C_ordersBeforeRow_17 K_4 vr x1 x2 x3) n (nI 0) (x3 + (nI 1)))))
def wp_C_ordersBeforeRow (post : Int32 → Prop) (c_latestSpent : Int32) (vr : Nat → Int32) (x1 : Int32) : Prop :=
  (∃ n, gL2 (wpF_C_ordersBeforeRow_4 post vr x1) n (nI 0) (nI 0))
abbrev rm_C_ordersBeforeRow : Room := { frames := 0, cells := 0, slots := 0, locals := 0 }
theorem mf_C_ordersBeforeRow : gFV y_C_ordersBeforeRow b_C_ordersBeforeRow 6 (some .int) 1 := ⟨w_156, w_1, ⟨by decide, by decide, by decide +kernel⟩, w_155, ws_1_3⟩
set_option maxHeartbeats 4000000 in
set_option maxRecDepth 100000 in
theorem c_C_ordersBeforeRow (l : Launch) (D : va_G) (cI : ClassId) (h_c : Nat) (h_r : Nat) (c_weights : Nat) (c_tape : Nat) (c_trial : Nat) (c_tally : Nat) (c_latestSpent : Int32) (vr : Nat → Int32) (x1 : Int32) (post : Int32 → Prop) (hw : wp_C_ordersBeforeRow post c_latestSpent vr x1) :
    gMi l D [(cI, .int)] y_C_ordersBeforeRow b_C_ordersBeforeRow 6 .int rm_C_ordersBeforeRow [.ref h_c, .int x1] [(h_c, .inr (2, [.ref c_weights, .ref h_r, .ref c_tape, .ref c_trial, .ref c_tally, .int c_latestSpent])), (h_r, .inl (cI, 4, .inl vr))] (S := Unit) (fun u => [(h_c, .inr (2, [.ref c_weights, .ref h_r, .ref c_tape, .ref c_trial, .ref c_tally, .int c_latestSpent])), (h_r, .inl (cI, 4, .inl vr))]) (fun r u => post r) := by
  rw [wp_C_ordersBeforeRow] at hw
  refine gMi.of (by decide) (Nat.le_of_ble_eq_true rfl) (fun p e s m args below meth c A Q ls hx hb hml hown hts hN hK hA hP hD hret hl => ?_)
  have fx : CallFix p m c b_C_ordersBeforeRow 6 s args gG "TapeCounter" := ⟨hx, hb, hml, hown, hts⟩
  have hl : lv_has ls 6 [(0, .ref h_c), (1, .int x1)] := hl
  have hS : va_S A s.heap s.heap [] := va_S.rf
  refine lv_iconst (v := (nI 0)) hx hb d_C_ordersBeforeRow_0 (by decide) ?_
  refine lv_istore_n (lv' := [(2, .int (nI 0)), (0, .ref h_c), (1, .int x1)]) hx hb d_C_ordersBeforeRow_1 rfl hl (by decide) rfl (fun ls hl => ?_)
  refine lv_iconst (v := (nI 0)) hx hb d_C_ordersBeforeRow_2 (by decide) ?_
  refine lv_istore_n (lv' := [(3, .int (nI 0)), (2, .int (nI 0)), (0, .ref h_c), (1, .int x1)]) hx hb d_C_ordersBeforeRow_3 rfl hl (by decide) rfl (fun ls hl => ?_)
  obtain ⟨n_4, hw⟩ := hw
  have k_4 : ∀ (n_4 : Nat) (x2 : Int32) (x3 : Int32), gL2 (wpF_C_ordersBeforeRow_4 post vr x1) n_4 x2 x3 → ∀ (H : Heap) (locs : List Loc) (ls : Array Slot), va_P D gCl [(h_c, .inr (2, [.ref c_weights, .ref h_r, .ref c_tape, .ref c_trial, .ref c_tally, .int c_latestSpent])), (h_r, .inl (cI, 4, .inl vr))] H → va_D A [(h_c, .inr (2, [.ref c_weights, .ref h_r, .ref c_tape, .ref c_trial, .ref c_tally, .int c_latestSpent])), (h_r, .inl (cI, 4, .inl vr))] → va_S A s.heap H locs → lv_has ls 6 [(3, .int x3), (2, .int x2), (0, .ref h_c), (1, .int x1)] → W p l e rm_C_ordersBeforeRow s m args below meth c H locs 0 0 Q (F0 m 4 ls []) := by
    clear hw hP hD hS hl
    intro n_4
    induction n_4 with
    | zero => exact fun _ _ h => h.elim
    | succ n_4 ih_4 =>
      intro x2 x3 hw H locs ls hP hD hS hl
      have hw : wpF_C_ordersBeforeRow_4 post vr x1 (gL2 (wpF_C_ordersBeforeRow_4 post vr x1) n_4) x2 x3 := hw
      rw [wpF_C_ordersBeforeRow_4] at hw
      refine lv_iload_n hx hb d_C_ordersBeforeRow_4 rfl (lv_at hl 0 rfl) ?_
      refine lv_iload_n hx hb d_C_ordersBeforeRow_5 rfl (lv_at hl 3 rfl) ?_
      refine lv_icmp_ge (tgt := 63) hx hb d_C_ordersBeforeRow_6 (by decide) (fun c6 => ?_) (fun c6 => ?_)
      · have hw := hw.1 c6
        refine lv_iload_n hx hb d_C_ordersBeforeRow_63 rfl (lv_at hl 1 rfl) ?_
        exact hret _ _ _ () _ _ hw rfl hP hD hS d_C_ordersBeforeRow_64
      · have hw := hw.2 c6
        refine lv_iconst (v := (nI 0)) hx hb d_C_ordersBeforeRow_9 (by decide) ?_
        refine lv_istore (lv' := [(4, .int (nI 0)), (3, .int x3), (2, .int x2), (0, .ref h_c), (1, .int x1)]) hx hb d_C_ordersBeforeRow_10 hl (by decide) rfl (fun ls hl => ?_)
        refine lv_iload_n hx hb d_C_ordersBeforeRow_12 rfl (lv_at hl 1 rfl) ?_
        refine lv_iconst (v := (nI 1)) hx hb d_C_ordersBeforeRow_13 (by decide) ?_
        refine lv_iadd hx hb d_C_ordersBeforeRow_14 ?_
        refine lv_istore (lv' := [(5, .int (x3 + (nI 1))), (4, .int (nI 0)), (3, .int x3), (2, .int x2), (0, .ref h_c), (1, .int x1)]) hx hb d_C_ordersBeforeRow_15 hl (by decide) rfl (fun ls hl => ?_)
        obtain ⟨n_17, hw⟩ := hw
        have k_17 : ∀ (n_17 : Nat) (x4 : Int32) (x5 : Int32), gL2 (wpF_C_ordersBeforeRow_17 (gL2 (wpF_C_ordersBeforeRow_4 post vr x1) n_4) vr x1 x2 x3) n_17 x4 x5 → ∀ (H : Heap) (locs : List Loc) (ls : Array Slot), va_P D gCl [(h_c, .inr (2, [.ref c_weights, .ref h_r, .ref c_tape, .ref c_trial, .ref c_tally, .int c_latestSpent])), (h_r, .inl (cI, 4, .inl vr))] H → va_D A [(h_c, .inr (2, [.ref c_weights, .ref h_r, .ref c_tape, .ref c_trial, .ref c_tally, .int c_latestSpent])), (h_r, .inl (cI, 4, .inl vr))] → va_S A s.heap H locs → lv_has ls 6 [(5, .int x5), (4, .int x4), (3, .int x3), (2, .int x2), (0, .ref h_c), (1, .int x1)] → W p l e rm_C_ordersBeforeRow s m args below meth c H locs 0 0 Q (F0 m 17 ls []) := by
          clear hw hP hD hS hl
          intro n_17
          induction n_17 with
          | zero => exact fun _ _ h => h.elim
          | succ n_17 ih_17 =>
            intro x4 x5 hw H locs ls hP hD hS hl
            have hw : wpF_C_ordersBeforeRow_17 (gL2 (wpF_C_ordersBeforeRow_4 post vr x1) n_4) vr x1 x2 x3 (gL2 (wpF_C_ordersBeforeRow_17 (gL2 (wpF_C_ordersBeforeRow_4 post vr x1) n_4) vr x1 x2 x3) n_17) x4 x5 := hw
            rw [wpF_C_ordersBeforeRow_17] at hw
            refine lv_iload hx hb d_C_ordersBeforeRow_17 (lv_at hl 0 rfl) ?_
            refine lv_iload_n hx hb d_C_ordersBeforeRow_19 rfl (lv_at hl 5 rfl) ?_
            refine lv_icmp_ge (tgt := 48) hx hb d_C_ordersBeforeRow_20 (by decide) (fun c20 => ?_) (fun c20 => ?_)
            · have hw := hw.1 c20
              refine lv_iload_n hx hb d_C_ordersBeforeRow_48 rfl (lv_at hl 3 rfl) ?_
              refine lv_iload_n hx hb d_C_ordersBeforeRow_49 rfl (lv_at hl 5 rfl) ?_
              refine lv_iload_n hx hb d_C_ordersBeforeRow_50 rfl (lv_at hl 2 rfl) ?_
              refine lv_isub hx hb d_C_ordersBeforeRow_51 ?_
              refine lv_imul hx hb d_C_ordersBeforeRow_52 ?_
              refine lv_iload hx hb d_C_ordersBeforeRow_53 (lv_at hl 1 rfl) ?_
              refine lv_iadd hx hb d_C_ordersBeforeRow_55 ?_
              refine lv_istore_n (lv' := [(2, .int ((x2 * (x1 - x3)) + x4)), (5, .int x5), (4, .int x4), (3, .int x3), (0, .ref h_c), (1, .int x1)]) hx hb d_C_ordersBeforeRow_56 rfl hl (by decide) rfl (fun ls hl => ?_)
              refine lv_iinc (v := (x3 + (nI 1))) (lv' := [(3, .int (x3 + (nI 1))), (2, .int ((x2 * (x1 - x3)) + x4)), (5, .int x5), (4, .int x4), (0, .ref h_c), (1, .int x1)]) hx hb d_C_ordersBeforeRow_57 hl (k := 3) rfl rfl (by decide) rfl (fun ls hl => ?_)
              refine lv_goto (tgt := 4) hx hb d_C_ordersBeforeRow_60 (by decide) ?_
              exact ih_4 _ _ hw _ _ _ hP hD hS (lv_sub hl [0, 1, 4, 5] rfl)
            · have hw := hw.2 c20
              refine lv_aload_n hx hb d_C_ordersBeforeRow_23 rfl (lv_at hl 4 rfl) ?_
              refine gGet fx hK hP 0 rfl inC rfl (k := 1) (by decide) w_56 rfl d_C_ordersBeforeRow_24 ?_
              refine lv_iload hx hb d_C_ordersBeforeRow_27 (lv_at hl 0 rfl) ?_
              refine va_iald hx hb hK hP 1 0 rfl rfl hw.1 d_C_ordersBeforeRow_29 ?_
              have hw := hw.2
              refine lv_aload_n hx hb d_C_ordersBeforeRow_30 rfl (lv_at hl 4 rfl) ?_
              refine gGet fx hK hP 0 rfl inC rfl (k := 1) (by decide) w_56 rfl d_C_ordersBeforeRow_31 ?_
              refine lv_iload_n hx hb d_C_ordersBeforeRow_34 rfl (lv_at hl 2 rfl) ?_
              refine va_iald hx hb hK hP 1 0 rfl rfl hw.1 d_C_ordersBeforeRow_35 ?_
              have hw := hw.2
              refine lv_icmp_ge (tgt := 42) hx hb d_C_ordersBeforeRow_36 (by decide) (fun c36 => ?_) (fun c36 => ?_)
              · have hw := hw.1 c36
                refine lv_iinc (v := (x5 + (nI 1))) (lv' := [(5, .int (x5 + (nI 1))), (4, .int x4), (3, .int x3), (2, .int x2), (0, .ref h_c), (1, .int x1)]) hx hb d_C_ordersBeforeRow_42 hl (k := 0) rfl rfl (by decide) rfl (fun ls hl => ?_)
                refine lv_goto (tgt := 17) hx hb d_C_ordersBeforeRow_45 (by decide) ?_
                exact ih_17 _ _ hw _ _ _ hP hD hS (lv_sub hl [0, 1, 2, 3, 4, 5] rfl)
              · have hw := hw.2 c36
                refine lv_iinc (v := (x4 + (nI 1))) (lv' := [(4, .int (x4 + (nI 1))), (5, .int x5), (3, .int x3), (2, .int x2), (0, .ref h_c), (1, .int x1)]) hx hb d_C_ordersBeforeRow_39 hl (k := 1) rfl rfl (by decide) rfl (fun ls hl => ?_)
                refine lv_iinc (v := (x5 + (nI 1))) (lv' := [(5, .int (x5 + (nI 1))), (4, .int (x4 + (nI 1))), (3, .int x3), (2, .int x2), (0, .ref h_c), (1, .int x1)]) hx hb d_C_ordersBeforeRow_42 hl (k := 1) rfl rfl (by decide) rfl (fun ls hl => ?_)
                refine lv_goto (tgt := 17) hx hb d_C_ordersBeforeRow_45 (by decide) ?_
                exact ih_17 _ _ hw _ _ _ hP hD hS (lv_sub hl [0, 1, 2, 3, 4, 5] rfl)
        exact k_17 n_17 _ _ hw _ _ _ hP hD hS (lv_sub hl [0, 1, 2, 3, 4, 5] rfl)
  exact k_4 n_4 _ _ hw _ _ _ hP hD hS (lv_sub hl [0, 1, 2, 3] rfl)
def wpF_C_order_24 (post : Int32 → (Nat → Int32) → Int32 → Prop) (Nb : Nat) (c_latestSpent : Int32) (t_size : Int32) (vb : Nat → Int32) (x2 : Int32) (K_24 : (Nat → Int32) → Int32 → Int32 → Prop) (vr : Nat → Int32) (t_at : Int32) (x3 : Int32) : Prop :=
  ((x3 < (nI 1) → wp_C_ordersBeforeRow (fun r_1 => post r_1 vr t_at) c_latestSpent vr x2) ∧ (¬ x3 < (nI 1) → wp_C_plain (fun r_2 tat_3 => ((¬ r_2 = (-1) → (vp_in x3 4 ∧ (vp_in r_2 4 ∧ (vp_in x3 4 ∧ (vp_in r_2 4 ∧ K_24 (upd (upd vr (x3).toNatClampNeg (vr (r_2).toNatClampNeg)) (r_2).toNatClampNeg (vr (x3).toNatClampNeg)) tat_3 (x3 + (-1))))))) ∧ (r_2 = (-1) → post (-1) vr tat_3))) Nb t_size t_at vb (x3 + (nI 1))))
def wpF_C_order_2 (post : Int32 → (Nat → Int32) → Int32 → Prop) (Nb : Nat) (c_latestSpent : Int32) (t_size : Int32) (t_at : Int32) (vb : Nat → Int32) (x2 : Int32) (K_2 : (Nat → Int32) → Int32 → Prop) (vr : Nat → Int32) (x3 : Int32) : Prop :=
  ((x2 ≤ x3 → (∃ n, gL3 (wpF_C_order_24 post Nb c_latestSpent t_size vb x2) n vr t_at (x2 - (nI 1)))) ∧ (¬ x2 ≤ x3 → (vp_in x3 4 ∧ K_2 (upd vr (x3).toNatClampNeg x3) (x3 + (nI 1)))))
def wp_C_order (post : Int32 → (Nat → Int32) → Int32 → Prop) (Nb : Nat) (c_latestSpent : Int32) (vr : Nat → Int32) (t_size : Int32) (t_at : Int32) (vb : Nat → Int32) (x2 : Int32) : Prop :=
  (∃ n, gL2 (wpF_C_order_2 post Nb c_latestSpent t_size t_at vb x2) n vr (nI 0))
abbrev rm_C_order : Room := { frames := 3, cells := 0, slots := 0, locals := 69 }
theorem mf_C_order : gFV y_C_order b_C_order 6 (some .int) 2 := ⟨w_152, w_1, ⟨by decide, by decide, by decide +kernel⟩, w_151, ws_1_2⟩
set_option maxHeartbeats 4000000 in
set_option maxRecDepth 100000 in
theorem c_C_order (l : Launch) (D : va_G) (cI : ClassId) (h_c : Nat) (h_r : Nat) (h_t : Nat) (h_b : Nat) (c_weights : Nat) (c_tape : Nat) (c_trial : Nat) (c_tally : Nat) (Nb : Nat) (c_latestSpent : Int32) (vr : Nat → Int32) (t_size : Int32) (t_at : Int32) (vb : Nat → Int32) (x2 : Int32) (post : Int32 → (Nat → Int32) → Int32 → Prop) (hw : wp_C_order post Nb c_latestSpent vr t_size t_at vb x2) :
    gMi l D [(cI, .int)] y_C_order b_C_order 6 .int rm_C_order [.ref h_c, .ref h_t, .int x2] [(h_c, .inr (2, [.ref c_weights, .ref h_r, .ref c_tape, .ref c_trial, .ref c_tally, .int c_latestSpent])), (h_r, .inl (cI, 4, .inl vr)), (h_t, .inr (1, [.ref h_b, .int t_size, .int t_at])), (h_b, .inl (cI, Nb, .inl vb))] (S := (Nat → Int32) × Int32) (fun u => [(h_c, .inr (2, [.ref c_weights, .ref h_r, .ref c_tape, .ref c_trial, .ref c_tally, .int c_latestSpent])), (h_r, .inl (cI, 4, .inl u.1)), (h_t, .inr (1, [.ref h_b, .int t_size, .int u.2])), (h_b, .inl (cI, Nb, .inl vb))]) (fun r u => post r u.1 u.2) := by
  rw [wp_C_order] at hw
  refine gMi.of (by decide) (Nat.le_of_ble_eq_true rfl) (fun p e s m args below meth c A Q ls hx hb hml hown hts hN hK hA hP hD hret hl => ?_)
  have fx : CallFix p m c b_C_order 6 s args gG "TapeCounter" := ⟨hx, hb, hml, hown, hts⟩
  have hl : lv_has ls 6 [(0, .ref h_c), (1, .ref h_t), (2, .int x2)] := hl
  have hS : va_S A s.heap s.heap [] := va_S.rf
  refine lv_iconst (v := (nI 0)) hx hb d_C_order_0 (by decide) ?_
  refine lv_istore_n (lv' := [(3, .int (nI 0)), (0, .ref h_c), (1, .ref h_t), (2, .int x2)]) hx hb d_C_order_1 rfl hl (by decide) rfl (fun ls hl => ?_)
  obtain ⟨n_2, hw⟩ := hw
  have k_2 : ∀ (n_2 : Nat) (vr : Nat → Int32) (x3 : Int32), gL2 (wpF_C_order_2 post Nb c_latestSpent t_size t_at vb x2) n_2 vr x3 → ∀ (H : Heap) (locs : List Loc) (ls : Array Slot), va_P D gCl [(h_c, .inr (2, [.ref c_weights, .ref h_r, .ref c_tape, .ref c_trial, .ref c_tally, .int c_latestSpent])), (h_r, .inl (cI, 4, .inl vr)), (h_t, .inr (1, [.ref h_b, .int t_size, .int t_at])), (h_b, .inl (cI, Nb, .inl vb))] H → va_D A [(h_c, .inr (2, [.ref c_weights, .ref h_r, .ref c_tape, .ref c_trial, .ref c_tally, .int c_latestSpent])), (h_r, .inl (cI, 4, .inl vr)), (h_t, .inr (1, [.ref h_b, .int t_size, .int t_at])), (h_b, .inl (cI, Nb, .inl vb))] → va_S A s.heap H locs → lv_has ls 6 [(3, .int x3), (0, .ref h_c), (1, .ref h_t), (2, .int x2)] → W p l e rm_C_order s m args below meth c H locs 0 0 Q (F0 m 2 ls []) := by
    clear hw hP hD hS hl
    intro n_2
    induction n_2 with
    | zero => exact fun _ _ h => h.elim
    | succ n_2 ih_2 =>
      intro vr x3 hw H locs ls hP hD hS hl
      have hw : wpF_C_order_2 post Nb c_latestSpent t_size t_at vb x2 (gL2 (wpF_C_order_2 post Nb c_latestSpent t_size t_at vb x2) n_2) vr x3 := hw
      rw [wpF_C_order_2] at hw
      refine lv_iload_n hx hb d_C_order_2 rfl (lv_at hl 0 rfl) ?_
      refine lv_iload_n hx hb d_C_order_3 rfl (lv_at hl 3 rfl) ?_
      refine lv_icmp_ge (tgt := 20) hx hb d_C_order_4 (by decide) (fun c4 => ?_) (fun c4 => ?_)
      · have hw := hw.1 c4
        refine lv_iload_n hx hb d_C_order_20 rfl (lv_at hl 3 rfl) ?_
        refine lv_iconst (v := (nI 1)) hx hb d_C_order_21 (by decide) ?_
        refine lv_isub hx hb d_C_order_22 ?_
        refine lv_istore_n (lv' := [(3, .int (x2 - (nI 1))), (0, .ref h_c), (1, .ref h_t), (2, .int x2)]) hx hb d_C_order_23 rfl hl (by decide) rfl (fun ls hl => ?_)
        obtain ⟨n_24, hw⟩ := hw
        have k_24 : ∀ (n_24 : Nat) (vr : Nat → Int32) (t_at : Int32) (x3 : Int32), gL3 (wpF_C_order_24 post Nb c_latestSpent t_size vb x2) n_24 vr t_at x3 → ∀ (H : Heap) (locs : List Loc) (ls : Array Slot), va_P D gCl [(h_c, .inr (2, [.ref c_weights, .ref h_r, .ref c_tape, .ref c_trial, .ref c_tally, .int c_latestSpent])), (h_r, .inl (cI, 4, .inl vr)), (h_t, .inr (1, [.ref h_b, .int t_size, .int t_at])), (h_b, .inl (cI, Nb, .inl vb))] H → va_D A [(h_c, .inr (2, [.ref c_weights, .ref h_r, .ref c_tape, .ref c_trial, .ref c_tally, .int c_latestSpent])), (h_r, .inl (cI, 4, .inl vr)), (h_t, .inr (1, [.ref h_b, .int t_size, .int t_at])), (h_b, .inl (cI, Nb, .inl vb))] → va_S A s.heap H locs → lv_has ls 6 [(3, .int x3), (0, .ref h_c), (1, .ref h_t), (2, .int x2)] → W p l e rm_C_order s m args below meth c H locs 0 0 Q (F0 m 24 ls []) := by
          clear hw hP hD hS hl
          intro n_24
          induction n_24 with
          | zero => exact fun _ _ _ h => h.elim
          | succ n_24 ih_24 =>
            intro vr t_at x3 hw H locs ls hP hD hS hl
            have hw : wpF_C_order_24 post Nb c_latestSpent t_size vb x2 (gL3 (wpF_C_order_24 post Nb c_latestSpent t_size vb x2) n_24) vr t_at x3 := hw
            rw [wpF_C_order_24] at hw
            refine lv_iload_n hx hb d_C_order_24 rfl (lv_at hl 0 rfl) ?_
            refine lv_iconst (v := (nI 1)) hx hb d_C_order_25 (by decide) ?_
            refine lv_icmp_lt (tgt := 82) hx hb d_C_order_26 (by decide) (fun c26 => ?_) (fun c26 => ?_)
            · have hw := hw.1 c26
              refine lv_aload_n hx hb d_C_order_82 rfl (lv_at hl 1 rfl) ?_
              refine lv_iload_n hx hb d_C_order_83 rfl (lv_at hl 3 rfl) ?_
              refine g_cVi (wr := [(h_t, .inr (1, [.ref h_b, .int t_size, .int t_at])), (h_b, .inl (cI, Nb, .inl vb))]) fx (c_C_ordersBeforeRow l D cI h_c h_r c_weights c_tape c_trial c_tally c_latestSpent vr x2 _ hw) mf_C_ordersBeforeRow w_153 ⟨rfl, rfl⟩ ⟨Nat.le_of_ble_eq_true rfl, Nat.le_of_ble_eq_true rfl⟩ hN hK hA hP hD hS [0, 1] [2, 3] rfl rfl rfl rfl (by decide) 0 rfl rfl rfl rfl hl.1 (Nat.le_of_ble_eq_true rfl) d_C_order_84 ⟨Nat.zero_le _, Nat.zero_le _⟩ (fun r_1 u H locs hw hP hD hS => ?_)
              try dsimp only at hw
              have hP : va_P D gCl [(h_t, .inr (1, [.ref h_b, .int t_size, .int t_at])), (h_b, .inl (cI, Nb, .inl vb)), (h_c, .inr (2, [.ref c_weights, .ref h_r, .ref c_tape, .ref c_trial, .ref c_tally, .int c_latestSpent])), (h_r, .inl (cI, 4, .inl vr))] H := hP
              have hD : va_D A [(h_t, .inr (1, [.ref h_b, .int t_size, .int t_at])), (h_b, .inl (cI, Nb, .inl vb)), (h_c, .inr (2, [.ref c_weights, .ref h_r, .ref c_tape, .ref c_trial, .ref c_tally, .int c_latestSpent])), (h_r, .inl (cI, 4, .inl vr))] := hD
              exact hret _ _ _ (vr, t_at) _ _ hw rfl (gSubP hP [2, 3, 0, 1] rfl) (hD.sub [2, 3, 0, 1] rfl rfl) hS d_C_order_87
            · have hw := hw.2 c26
              refine lv_aload_n hx hb d_C_order_29 rfl (lv_at hl 2 rfl) ?_
              refine lv_iload_n hx hb d_C_order_30 rfl (lv_at hl 0 rfl) ?_
              refine lv_iconst (v := (nI 1)) hx hb d_C_order_31 (by decide) ?_
              refine lv_iadd hx hb d_C_order_32 ?_
              refine g_cSi (wr := [(h_c, .inr (2, [.ref c_weights, .ref h_r, .ref c_tape, .ref c_trial, .ref c_tally, .int c_latestSpent])), (h_r, .inl (cI, 4, .inl vr))]) fx (c_C_plain l D cI h_t h_b Nb t_size t_at vb (x3 + (nI 1)) _ hw) mf_C_plain w_122 ⟨rfl, rfl⟩ ⟨Nat.le_of_ble_eq_true rfl, Nat.le_of_ble_eq_true rfl⟩ hN hK hA hP hD hS [2, 3] [0, 1] rfl rfl rfl rfl (by decide) rfl rfl hl.1 (Nat.le_of_ble_eq_true rfl) d_C_order_33 ⟨Nat.zero_le _, Nat.zero_le _⟩ (fun r_2 u H locs hw hP hD hS => ?_)
              obtain ⟨tat_3, rfl⟩ : ∃ z, z = u := ⟨_, rfl⟩
              try dsimp only at hw
              have hP : va_P D gCl [(h_c, .inr (2, [.ref c_weights, .ref h_r, .ref c_tape, .ref c_trial, .ref c_tally, .int c_latestSpent])), (h_r, .inl (cI, 4, .inl vr)), (h_t, .inr (1, [.ref h_b, .int t_size, .int tat_3])), (h_b, .inl (cI, Nb, .inl vb))] H := hP
              have hD : va_D A [(h_c, .inr (2, [.ref c_weights, .ref h_r, .ref c_tape, .ref c_trial, .ref c_tally, .int c_latestSpent])), (h_r, .inl (cI, 4, .inl vr)), (h_t, .inr (1, [.ref h_b, .int t_size, .int tat_3])), (h_b, .inl (cI, Nb, .inl vb))] := hD
              refine lv_istore (lv' := [(4, .int r_2), (3, .int x3), (0, .ref h_c), (1, .ref h_t), (2, .int x2)]) hx hb d_C_order_36 hl (by decide) rfl (fun ls hl => ?_)
              refine lv_iload hx hb d_C_order_38 (lv_at hl 0 rfl) ?_
              refine lv_iconst (v := (-1)) hx hb d_C_order_40 (by decide) ?_
              refine lv_icmp_ne (tgt := 46) hx hb d_C_order_41 (by decide) (fun c41 => ?_) (fun c41 => ?_)
              · have hw := hw.1 c41
                refine lv_aload_n hx hb d_C_order_46 rfl (lv_at hl 2 rfl) ?_
                refine gGet fx hK hP 0 rfl inC rfl (k := 1) (by decide) w_56 rfl d_C_order_47 ?_
                refine lv_iload_n hx hb d_C_order_50 rfl (lv_at hl 1 rfl) ?_
                refine va_iald hx hb hK hP 1 0 rfl rfl hw.1 d_C_order_51 ?_
                have hw := hw.2
                refine lv_istore (lv' := [(5, .int (vr (x3).toNatClampNeg)), (4, .int r_2), (3, .int x3), (0, .ref h_c), (1, .ref h_t), (2, .int x2)]) hx hb d_C_order_52 hl (by decide) rfl (fun ls hl => ?_)
                refine lv_aload_n hx hb d_C_order_54 rfl (lv_at hl 3 rfl) ?_
                refine gGet fx hK hP 0 rfl inC rfl (k := 1) (by decide) w_56 rfl d_C_order_55 ?_
                refine lv_iload_n hx hb d_C_order_58 rfl (lv_at hl 2 rfl) ?_
                refine lv_aload_n hx hb d_C_order_59 rfl (lv_at hl 3 rfl) ?_
                refine gGet fx hK hP 0 rfl inC rfl (k := 1) (by decide) w_56 rfl d_C_order_60 ?_
                refine lv_iload hx hb d_C_order_63 (lv_at hl 1 rfl) ?_
                refine va_iald hx hb hK hP 1 0 rfl rfl hw.1 d_C_order_65 ?_
                have hw := hw.2
                refine va_iast hx hb hK hP hD hS 1 0 rfl rfl hw.1 d_C_order_66 (fun H locs hP hD hS => ?_)
                have hw := hw.2
                have hP : va_P D gCl [(h_c, .inr (2, [.ref c_weights, .ref h_r, .ref c_tape, .ref c_trial, .ref c_tally, .int c_latestSpent])), (h_r, .inl (cI, 4, .inl (upd vr (x3).toNatClampNeg (vr (r_2).toNatClampNeg)))), (h_t, .inr (1, [.ref h_b, .int t_size, .int tat_3])), (h_b, .inl (cI, Nb, .inl vb))] H := hP
                have hD : va_D A [(h_c, .inr (2, [.ref c_weights, .ref h_r, .ref c_tape, .ref c_trial, .ref c_tally, .int c_latestSpent])), (h_r, .inl (cI, 4, .inl (upd vr (x3).toNatClampNeg (vr (r_2).toNatClampNeg)))), (h_t, .inr (1, [.ref h_b, .int t_size, .int tat_3])), (h_b, .inl (cI, Nb, .inl vb))] := hD
                refine lv_aload_n hx hb d_C_order_67 rfl (lv_at hl 3 rfl) ?_
                refine gGet fx hK hP 0 rfl inC rfl (k := 1) (by decide) w_56 rfl d_C_order_68 ?_
                refine lv_iload hx hb d_C_order_71 (lv_at hl 1 rfl) ?_
                refine lv_iload hx hb d_C_order_73 (lv_at hl 0 rfl) ?_
                refine va_iast hx hb hK hP hD hS 1 0 rfl rfl hw.1 d_C_order_75 (fun H locs hP hD hS => ?_)
                have hw := hw.2
                have hP : va_P D gCl [(h_c, .inr (2, [.ref c_weights, .ref h_r, .ref c_tape, .ref c_trial, .ref c_tally, .int c_latestSpent])), (h_r, .inl (cI, 4, .inl (upd (upd vr (x3).toNatClampNeg (vr (r_2).toNatClampNeg)) (r_2).toNatClampNeg (vr (x3).toNatClampNeg)))), (h_t, .inr (1, [.ref h_b, .int t_size, .int tat_3])), (h_b, .inl (cI, Nb, .inl vb))] H := hP
                have hD : va_D A [(h_c, .inr (2, [.ref c_weights, .ref h_r, .ref c_tape, .ref c_trial, .ref c_tally, .int c_latestSpent])), (h_r, .inl (cI, 4, .inl (upd (upd vr (x3).toNatClampNeg (vr (r_2).toNatClampNeg)) (r_2).toNatClampNeg (vr (x3).toNatClampNeg)))), (h_t, .inr (1, [.ref h_b, .int t_size, .int tat_3])), (h_b, .inl (cI, Nb, .inl vb))] := hD
                refine lv_iinc (v := (x3 + (-1))) (lv' := [(3, .int (x3 + (-1))), (5, .int (vr (x3).toNatClampNeg)), (4, .int r_2), (0, .ref h_c), (1, .ref h_t), (2, .int x2)]) hx hb d_C_order_76 hl (k := 2) rfl (by rw [i32_m1]) (by decide) rfl (fun ls hl => ?_)
                refine lv_goto (tgt := 24) hx hb d_C_order_79 (by decide) ?_
                exact ih_24 _ _ _ hw _ _ _ hP hD hS (lv_sub hl [0, 3, 4, 5] rfl)
              · have hw := hw.2 c41
                refine lv_iconst (v := (-1)) hx hb d_C_order_44 (by decide) ?_
                exact hret _ _ _ (vr, tat_3) _ _ hw rfl hP hD hS d_C_order_45
        exact k_24 n_24 _ _ _ hw _ _ _ hP hD hS (lv_sub hl [0, 1, 2, 3] rfl)
      · have hw := hw.2 c4
        refine lv_aload_n hx hb d_C_order_7 rfl (lv_at hl 1 rfl) ?_
        refine gGet fx hK hP 0 rfl inC rfl (k := 1) (by decide) w_56 rfl d_C_order_8 ?_
        refine lv_iload_n hx hb d_C_order_11 rfl (lv_at hl 0 rfl) ?_
        refine lv_iload_n hx hb d_C_order_12 rfl (lv_at hl 0 rfl) ?_
        refine va_iast hx hb hK hP hD hS 1 0 rfl rfl hw.1 d_C_order_13 (fun H locs hP hD hS => ?_)
        have hw := hw.2
        have hP : va_P D gCl [(h_c, .inr (2, [.ref c_weights, .ref h_r, .ref c_tape, .ref c_trial, .ref c_tally, .int c_latestSpent])), (h_r, .inl (cI, 4, .inl (upd vr (x3).toNatClampNeg x3))), (h_t, .inr (1, [.ref h_b, .int t_size, .int t_at])), (h_b, .inl (cI, Nb, .inl vb))] H := hP
        have hD : va_D A [(h_c, .inr (2, [.ref c_weights, .ref h_r, .ref c_tape, .ref c_trial, .ref c_tally, .int c_latestSpent])), (h_r, .inl (cI, 4, .inl (upd vr (x3).toNatClampNeg x3))), (h_t, .inr (1, [.ref h_b, .int t_size, .int t_at])), (h_b, .inl (cI, Nb, .inl vb))] := hD
        refine lv_iinc (v := (x3 + (nI 1))) (lv' := [(3, .int (x3 + (nI 1))), (0, .ref h_c), (1, .ref h_t), (2, .int x2)]) hx hb d_C_order_14 hl (k := 0) rfl rfl (by decide) rfl (fun ls hl => ?_)
        refine lv_goto (tgt := 2) hx hb d_C_order_17 (by decide) ?_
        exact ih_2 _ _ hw _ _ _ hP hD hS (lv_sub hl [0, 1, 2, 3] rfl)
  exact k_2 n_2 _ _ hw _ _ _ hP hD hS (lv_sub hl [0, 1, 2, 3] rfl)
def wpF_C_share_21 (post : Int32 → Int32 → Prop) (vw : Nat → Int32) (t_at : Int32) (x2 : Int32) (K_21 : Int32 → Int32 → Prop) (x3 : Int32) (x4 : Int32) : Prop :=
  (((nI 8) ≤ x4 → post (-1) t_at) ∧ (¬ (nI 8) ≤ x4 → (vp_in x4 8 ∧ (((x3 + (vw (x4).toNatClampNeg)) ≤ x2 → K_21 (x3 + (vw (x4).toNatClampNeg)) (x4 + (nI 1))) ∧ (¬ (x3 + (vw (x4).toNatClampNeg)) ≤ x2 → post x4 t_at)))))
def wp_C_share (post : Int32 → Int32 → Prop) (Nb : Nat) (c_latestSpent : Int32) (vw : Nat → Int32) (t_size : Int32) (t_at : Int32) (vb : Nat → Int32) : Prop :=
  wp_C_weightSum (fun r_1 => wp_C_plain (fun r_2 tat_3 => ((¬ r_2 = (-1) → (∃ n, gL2 (wpF_C_share_21 post vw tat_3 r_2) n (nI 0) (nI 0))) ∧ (r_2 = (-1) → post (-1) tat_3))) Nb t_size t_at vb r_1) c_latestSpent vw
abbrev rm_C_share : Room := { frames := 3, cells := 0, slots := 0, locals := 69 }
theorem mf_C_share : gFV y_C_share b_C_share 5 (some .int) 1 := ⟨w_163, w_1, ⟨by decide, by decide, by decide +kernel⟩, w_162, ws_1_4⟩
set_option maxHeartbeats 4000000 in
set_option maxRecDepth 100000 in
theorem c_C_share (l : Launch) (D : va_G) (cI : ClassId) (h_c : Nat) (h_w : Nat) (h_t : Nat) (h_b : Nat) (c_row : Nat) (c_tape : Nat) (c_trial : Nat) (c_tally : Nat) (Nb : Nat) (c_latestSpent : Int32) (vw : Nat → Int32) (t_size : Int32) (t_at : Int32) (vb : Nat → Int32) (post : Int32 → Int32 → Prop) (hw : wp_C_share post Nb c_latestSpent vw t_size t_at vb) :
    gMi l D [(cI, .int)] y_C_share b_C_share 5 .int rm_C_share [.ref h_c, .ref h_t] [(h_c, .inr (2, [.ref h_w, .ref c_row, .ref c_tape, .ref c_trial, .ref c_tally, .int c_latestSpent])), (h_w, .inl (cI, 8, .inl vw)), (h_t, .inr (1, [.ref h_b, .int t_size, .int t_at])), (h_b, .inl (cI, Nb, .inl vb))] (S := Int32) (fun u => [(h_c, .inr (2, [.ref h_w, .ref c_row, .ref c_tape, .ref c_trial, .ref c_tally, .int c_latestSpent])), (h_w, .inl (cI, 8, .inl vw)), (h_t, .inr (1, [.ref h_b, .int t_size, .int u])), (h_b, .inl (cI, Nb, .inl vb))]) (fun r u => post r u) := by
  rw [wp_C_share] at hw
  refine gMi.of (by decide) (Nat.le_of_ble_eq_true rfl) (fun p e s m args below meth c A Q ls hx hb hml hown hts hN hK hA hP hD hret hl => ?_)
  have fx : CallFix p m c b_C_share 5 s args gG "TapeCounter" := ⟨hx, hb, hml, hown, hts⟩
  have hl : lv_has ls 5 [(0, .ref h_c), (1, .ref h_t)] := hl
  have hS : va_S A s.heap s.heap [] := va_S.rf
  refine lv_aload_n hx hb d_C_share_0 rfl (lv_at hl 1 rfl) ?_
  refine lv_aload_n hx hb d_C_share_1 rfl (lv_at hl 0 rfl) ?_
  refine g_cVi (wr := [(h_t, .inr (1, [.ref h_b, .int t_size, .int t_at])), (h_b, .inl (cI, Nb, .inl vb))]) fx (c_C_weightSum l D cI h_c h_w c_row c_tape c_trial c_tally c_latestSpent vw _ hw) mf_C_weightSum w_105 ⟨rfl, rfl⟩ ⟨Nat.le_of_ble_eq_true rfl, Nat.le_of_ble_eq_true rfl⟩ hN hK hA hP hD hS [0, 1] [2, 3] rfl rfl rfl rfl (by decide) 0 rfl rfl rfl rfl hl.1 (Nat.le_of_ble_eq_true rfl) d_C_share_2 ⟨Nat.zero_le _, Nat.zero_le _⟩ (fun r_1 u H locs hw hP hD hS => ?_)
  try dsimp only at hw
  have hP : va_P D gCl [(h_t, .inr (1, [.ref h_b, .int t_size, .int t_at])), (h_b, .inl (cI, Nb, .inl vb)), (h_c, .inr (2, [.ref h_w, .ref c_row, .ref c_tape, .ref c_trial, .ref c_tally, .int c_latestSpent])), (h_w, .inl (cI, 8, .inl vw))] H := hP
  have hD : va_D A [(h_t, .inr (1, [.ref h_b, .int t_size, .int t_at])), (h_b, .inl (cI, Nb, .inl vb)), (h_c, .inr (2, [.ref h_w, .ref c_row, .ref c_tape, .ref c_trial, .ref c_tally, .int c_latestSpent])), (h_w, .inl (cI, 8, .inl vw))] := hD
  refine g_cSi (wr := [(h_c, .inr (2, [.ref h_w, .ref c_row, .ref c_tape, .ref c_trial, .ref c_tally, .int c_latestSpent])), (h_w, .inl (cI, 8, .inl vw))]) fx (c_C_plain l D cI h_t h_b Nb t_size t_at vb r_1 _ hw) mf_C_plain w_122 ⟨rfl, rfl⟩ ⟨Nat.le_of_ble_eq_true rfl, Nat.le_of_ble_eq_true rfl⟩ hN hK hA hP hD hS [0, 1] [2, 3] rfl rfl rfl rfl (by decide) rfl rfl hl.1 (Nat.le_of_ble_eq_true rfl) d_C_share_5 ⟨Nat.zero_le _, Nat.zero_le _⟩ (fun r_2 u H locs hw hP hD hS => ?_)
  obtain ⟨tat_3, rfl⟩ : ∃ z, z = u := ⟨_, rfl⟩
  try dsimp only at hw
  have hP : va_P D gCl [(h_c, .inr (2, [.ref h_w, .ref c_row, .ref c_tape, .ref c_trial, .ref c_tally, .int c_latestSpent])), (h_w, .inl (cI, 8, .inl vw)), (h_t, .inr (1, [.ref h_b, .int t_size, .int tat_3])), (h_b, .inl (cI, Nb, .inl vb))] H := hP
  have hD : va_D A [(h_c, .inr (2, [.ref h_w, .ref c_row, .ref c_tape, .ref c_trial, .ref c_tally, .int c_latestSpent])), (h_w, .inl (cI, 8, .inl vw)), (h_t, .inr (1, [.ref h_b, .int t_size, .int tat_3])), (h_b, .inl (cI, Nb, .inl vb))] := hD
  refine lv_istore_n (lv' := [(2, .int r_2), (0, .ref h_c), (1, .ref h_t)]) hx hb d_C_share_8 rfl hl (by decide) rfl (fun ls hl => ?_)
  refine lv_iload_n hx hb d_C_share_9 rfl (lv_at hl 0 rfl) ?_
  refine lv_iconst (v := (-1)) hx hb d_C_share_10 (by decide) ?_
  refine lv_icmp_ne (tgt := 16) hx hb d_C_share_11 (by decide) (fun c11 => ?_) (fun c11 => ?_)
  · have hw := hw.1 c11
    refine lv_iconst (v := (nI 0)) hx hb d_C_share_16 (by decide) ?_
    refine lv_istore_n (lv' := [(3, .int (nI 0)), (2, .int r_2), (0, .ref h_c), (1, .ref h_t)]) hx hb d_C_share_17 rfl hl (by decide) rfl (fun ls hl => ?_)
    refine lv_iconst (v := (nI 0)) hx hb d_C_share_18 (by decide) ?_
    refine lv_istore (lv' := [(4, .int (nI 0)), (3, .int (nI 0)), (2, .int r_2), (0, .ref h_c), (1, .ref h_t)]) hx hb d_C_share_19 hl (by decide) rfl (fun ls hl => ?_)
    obtain ⟨n_21, hw⟩ := hw
    have k_21 : ∀ (t_at : Int32) (x2 : Int32) (n_21 : Nat) (x3 : Int32) (x4 : Int32), gL2 (wpF_C_share_21 post vw t_at x2) n_21 x3 x4 → ∀ (H : Heap) (locs : List Loc) (ls : Array Slot), va_P D gCl [(h_c, .inr (2, [.ref h_w, .ref c_row, .ref c_tape, .ref c_trial, .ref c_tally, .int c_latestSpent])), (h_w, .inl (cI, 8, .inl vw)), (h_t, .inr (1, [.ref h_b, .int t_size, .int t_at])), (h_b, .inl (cI, Nb, .inl vb))] H → va_D A [(h_c, .inr (2, [.ref h_w, .ref c_row, .ref c_tape, .ref c_trial, .ref c_tally, .int c_latestSpent])), (h_w, .inl (cI, 8, .inl vw)), (h_t, .inr (1, [.ref h_b, .int t_size, .int t_at])), (h_b, .inl (cI, Nb, .inl vb))] → va_S A s.heap H locs → lv_has ls 5 [(4, .int x4), (3, .int x3), (2, .int x2), (0, .ref h_c)] → W p l e rm_C_share s m args below meth c H locs 0 0 Q (F0 m 21 ls []) := by
      clear hw hP hD hS hl
      intro t_at x2 n_21
      induction n_21 with
      | zero => exact fun _ _ h => h.elim
      | succ n_21 ih_21 =>
        intro x3 x4 hw H locs ls hP hD hS hl
        have hw : wpF_C_share_21 post vw t_at x2 (gL2 (wpF_C_share_21 post vw t_at x2) n_21) x3 x4 := hw
        rw [wpF_C_share_21] at hw
        refine lv_iload hx hb d_C_share_21 (lv_at hl 0 rfl) ?_
        refine lv_bipush (v := (nI 8)) hx hb d_C_share_23 (by decide) ?_
        refine lv_icmp_ge (tgt := 52) hx hb d_C_share_25 (by decide) (fun c25 => ?_) (fun c25 => ?_)
        · have hw := hw.1 c25
          refine lv_iconst (v := (-1)) hx hb d_C_share_52 (by decide) ?_
          exact hret _ _ _ t_at _ _ hw rfl hP hD hS d_C_share_53
        · have hw := hw.2 c25
          refine lv_iload_n hx hb d_C_share_28 rfl (lv_at hl 1 rfl) ?_
          refine lv_aload_n hx hb d_C_share_29 rfl (lv_at hl 3 rfl) ?_
          refine gGet fx hK hP 0 rfl inC rfl (k := 0) (by decide) w_55 rfl d_C_share_30 ?_
          refine lv_iload hx hb d_C_share_33 (lv_at hl 0 rfl) ?_
          refine va_iald hx hb hK hP 1 0 rfl rfl hw.1 d_C_share_35 ?_
          have hw := hw.2
          refine lv_iadd hx hb d_C_share_36 ?_
          refine lv_istore_n (lv' := [(3, .int (x3 + (vw (x4).toNatClampNeg))), (4, .int x4), (2, .int x2), (0, .ref h_c)]) hx hb d_C_share_37 rfl hl (by decide) rfl (fun ls hl => ?_)
          refine lv_iload_n hx hb d_C_share_38 rfl (lv_at hl 0 rfl) ?_
          refine lv_iload_n hx hb d_C_share_39 rfl (lv_at hl 2 rfl) ?_
          refine lv_icmp_le (tgt := 46) hx hb d_C_share_40 (by decide) (fun c40 => ?_) (fun c40 => ?_)
          · have hw := hw.1 c40
            refine lv_iinc (v := (x4 + (nI 1))) (lv' := [(4, .int (x4 + (nI 1))), (3, .int (x3 + (vw (x4).toNatClampNeg))), (2, .int x2), (0, .ref h_c)]) hx hb d_C_share_46 hl (k := 1) rfl rfl (by decide) rfl (fun ls hl => ?_)
            refine lv_goto (tgt := 21) hx hb d_C_share_49 (by decide) ?_
            exact ih_21 _ _ hw _ _ _ hP hD hS (lv_sub hl [0, 1, 2, 3] rfl)
          · have hw := hw.2 c40
            refine lv_iload hx hb d_C_share_43 (lv_at hl 1 rfl) ?_
            exact hret _ _ _ t_at _ _ hw rfl hP hD hS d_C_share_45
    exact k_21 tat_3 r_2 n_21 _ _ hw _ _ _ hP hD hS (lv_sub hl [0, 1, 2, 3] rfl)
  · have hw := hw.2 c11
    refine lv_iconst (v := (-1)) hx hb d_C_share_14 (by decide) ?_
    exact hret _ _ _ tat_3 _ _ hw rfl hP hD hS d_C_share_15
def wp_C_sample (post : Int32 → (Nat → Int32) → Int32 → Prop) (Nb : Nat) (c_latestSpent : Int32) (vw : Nat → Int32) (vr : Nat → Int32) (t_size : Int32) (t_at : Int32) (vb : Nat → Int32) (x2 : Int32) (x3 : Int32) (x4 : Int32) : Prop :=
  ((x2 = nI 0 → wp_C_plain (fun r_1 tat_2 => post r_1 vr tat_2) Nb t_size t_at vb x3) ∧ (¬ x2 = nI 0 → ((x2 = nI 1 → wp_C_thrifty (fun r_3 tat_4 => post r_3 vr tat_4) Nb t_size t_at vb x3) ∧ (¬ x2 = nI 1 → ((x2 = nI 2 → wp_C_coin (fun r_5 tat_6 => post r_5 vr tat_6) Nb t_size t_at vb x3 x4) ∧ (¬ x2 = nI 2 → ((x2 = nI 3 → wp_C_tosses (fun r_7 tat_8 => post r_7 vr tat_8) Nb t_size t_at vb x3) ∧ (¬ x2 = nI 3 → ((x2 = nI 4 → wp_C_zerosBeforeOne (fun r_9 tat_10 => post r_9 vr tat_10) Nb t_size t_at vb x3) ∧ (¬ x2 = nI 4 → ((x2 = nI 5 → wp_C_order (fun r_11 vr_12 tat_13 => post r_11 vr_12 tat_13) Nb c_latestSpent vr t_size t_at vb x3) ∧ (¬ x2 = nI 5 → ((x2 = nI 6 → wp_C_choice (fun r_14 tat_15 => post r_14 vr tat_15) Nb t_size t_at vb x3 x4) ∧ (¬ x2 = nI 6 → ((x2 = nI 7 → wp_C_share (fun r_16 tat_17 => post r_16 vr tat_17) Nb c_latestSpent vw t_size t_at vb) ∧ (¬ x2 = nI 7 → post (-1) vr t_at))))))))))))))))
abbrev rm_C_sample : Room := { frames := 4, cells := 0, slots := 0, locals := 94 }
theorem mf_C_sample : gFV y_C_sample b_C_sample 5 (some .int) 4 := ⟨w_121, w_1, ⟨by decide, by decide, by decide +kernel⟩, w_120, ws_1_1⟩
set_option maxHeartbeats 4000000 in
set_option maxRecDepth 100000 in
theorem c_C_sample (l : Launch) (D : va_G) (cI : ClassId) (h_c : Nat) (h_w : Nat) (h_r : Nat) (h_t : Nat) (h_b : Nat) (c_tape : Nat) (c_trial : Nat) (c_tally : Nat) (Nb : Nat) (c_latestSpent : Int32) (vw : Nat → Int32) (vr : Nat → Int32) (t_size : Int32) (t_at : Int32) (vb : Nat → Int32) (x2 : Int32) (x3 : Int32) (x4 : Int32) (post : Int32 → (Nat → Int32) → Int32 → Prop) (hw : wp_C_sample post Nb c_latestSpent vw vr t_size t_at vb x2 x3 x4) :
    gMi l D [(cI, .int)] y_C_sample b_C_sample 5 .int rm_C_sample [.ref h_c, .ref h_t, .int x2, .int x3, .int x4] [(h_c, .inr (2, [.ref h_w, .ref h_r, .ref c_tape, .ref c_trial, .ref c_tally, .int c_latestSpent])), (h_w, .inl (cI, 8, .inl vw)), (h_r, .inl (cI, 4, .inl vr)), (h_t, .inr (1, [.ref h_b, .int t_size, .int t_at])), (h_b, .inl (cI, Nb, .inl vb))] (S := (Nat → Int32) × Int32) (fun u => [(h_c, .inr (2, [.ref h_w, .ref h_r, .ref c_tape, .ref c_trial, .ref c_tally, .int c_latestSpent])), (h_w, .inl (cI, 8, .inl vw)), (h_r, .inl (cI, 4, .inl u.1)), (h_t, .inr (1, [.ref h_b, .int t_size, .int u.2])), (h_b, .inl (cI, Nb, .inl vb))]) (fun r u => post r u.1 u.2) := by
  rw [wp_C_sample] at hw
  refine gMi.of (by decide) (Nat.le_of_ble_eq_true rfl) (fun p e s m args below meth c A Q ls hx hb hml hown hts hN hK hA hP hD hret hl => ?_)
  have fx : CallFix p m c b_C_sample 5 s args gG "TapeCounter" := ⟨hx, hb, hml, hown, hts⟩
  have hl : lv_has ls 5 [(0, .ref h_c), (1, .ref h_t), (2, .int x2), (3, .int x3), (4, .int x4)] := hl
  have hS : va_S A s.heap s.heap [] := va_S.rf
  refine lv_iload_n hx hb d_C_sample_0 rfl (lv_at hl 2 rfl) ?_
  rcases Classical.em (x2 = nI 0) with c1_0 | c1_0
  · have hw := hw.1 c1_0
    refine g_sw (nI 0) (tgt := 48) hx hb d_C_sample_1 c1_0 (by decide) (by decide) rfl (by decide) ?_
    refine lv_aload_n hx hb d_C_sample_48 rfl (lv_at hl 1 rfl) ?_
    refine lv_iload_n hx hb d_C_sample_49 rfl (lv_at hl 3 rfl) ?_
    refine g_cSi (wr := [(h_c, .inr (2, [.ref h_w, .ref h_r, .ref c_tape, .ref c_trial, .ref c_tally, .int c_latestSpent])), (h_w, .inl (cI, 8, .inl vw)), (h_r, .inl (cI, 4, .inl vr))]) fx (c_C_plain l D cI h_t h_b Nb t_size t_at vb x3 _ hw) mf_C_plain w_122 ⟨rfl, rfl⟩ ⟨Nat.le_of_ble_eq_true rfl, Nat.le_of_ble_eq_true rfl⟩ hN hK hA hP hD hS [3, 4] [0, 1, 2] rfl rfl rfl rfl (by decide) rfl rfl hl.1 (Nat.le_of_ble_eq_true rfl) d_C_sample_50 ⟨Nat.zero_le _, Nat.zero_le _⟩ (fun r_1 u H locs hw hP hD hS => ?_)
    obtain ⟨tat_2, rfl⟩ : ∃ z, z = u := ⟨_, rfl⟩
    try dsimp only at hw
    have hP : va_P D gCl [(h_c, .inr (2, [.ref h_w, .ref h_r, .ref c_tape, .ref c_trial, .ref c_tally, .int c_latestSpent])), (h_w, .inl (cI, 8, .inl vw)), (h_r, .inl (cI, 4, .inl vr)), (h_t, .inr (1, [.ref h_b, .int t_size, .int tat_2])), (h_b, .inl (cI, Nb, .inl vb))] H := hP
    have hD : va_D A [(h_c, .inr (2, [.ref h_w, .ref h_r, .ref c_tape, .ref c_trial, .ref c_tally, .int c_latestSpent])), (h_w, .inl (cI, 8, .inl vw)), (h_r, .inl (cI, 4, .inl vr)), (h_t, .inr (1, [.ref h_b, .int t_size, .int tat_2])), (h_b, .inl (cI, Nb, .inl vb))] := hD
    exact hret _ _ _ (vr, tat_2) _ _ hw rfl hP hD hS d_C_sample_53
  · have hw := hw.2 c1_0
    rcases Classical.em (x2 = nI 1) with c1_1 | c1_1
    · have hw := hw.1 c1_1
      refine g_sw (nI 1) (tgt := 54) hx hb d_C_sample_1 c1_1 (by decide) (by decide) rfl (by decide) ?_
      refine lv_aload_n hx hb d_C_sample_54 rfl (lv_at hl 1 rfl) ?_
      refine lv_iload_n hx hb d_C_sample_55 rfl (lv_at hl 3 rfl) ?_
      refine g_cSi (wr := [(h_c, .inr (2, [.ref h_w, .ref h_r, .ref c_tape, .ref c_trial, .ref c_tally, .int c_latestSpent])), (h_w, .inl (cI, 8, .inl vw)), (h_r, .inl (cI, 4, .inl vr))]) fx (c_C_thrifty l D cI h_t h_b Nb t_size t_at vb x3 _ hw) mf_C_thrifty w_136 ⟨rfl, rfl⟩ ⟨Nat.le_of_ble_eq_true rfl, Nat.le_of_ble_eq_true rfl⟩ hN hK hA hP hD hS [3, 4] [0, 1, 2] rfl rfl rfl rfl (by decide) rfl rfl hl.1 (Nat.le_of_ble_eq_true rfl) d_C_sample_56 ⟨Nat.zero_le _, Nat.zero_le _⟩ (fun r_3 u H locs hw hP hD hS => ?_)
      obtain ⟨tat_4, rfl⟩ : ∃ z, z = u := ⟨_, rfl⟩
      try dsimp only at hw
      have hP : va_P D gCl [(h_c, .inr (2, [.ref h_w, .ref h_r, .ref c_tape, .ref c_trial, .ref c_tally, .int c_latestSpent])), (h_w, .inl (cI, 8, .inl vw)), (h_r, .inl (cI, 4, .inl vr)), (h_t, .inr (1, [.ref h_b, .int t_size, .int tat_4])), (h_b, .inl (cI, Nb, .inl vb))] H := hP
      have hD : va_D A [(h_c, .inr (2, [.ref h_w, .ref h_r, .ref c_tape, .ref c_trial, .ref c_tally, .int c_latestSpent])), (h_w, .inl (cI, 8, .inl vw)), (h_r, .inl (cI, 4, .inl vr)), (h_t, .inr (1, [.ref h_b, .int t_size, .int tat_4])), (h_b, .inl (cI, Nb, .inl vb))] := hD
      exact hret _ _ _ (vr, tat_4) _ _ hw rfl hP hD hS d_C_sample_59
    · have hw := hw.2 c1_1
      rcases Classical.em (x2 = nI 2) with c1_2 | c1_2
      · have hw := hw.1 c1_2
        refine g_sw (nI 2) (tgt := 60) hx hb d_C_sample_1 c1_2 (by decide) (by decide) rfl (by decide) ?_
        refine lv_aload_n hx hb d_C_sample_60 rfl (lv_at hl 1 rfl) ?_
        refine lv_iload_n hx hb d_C_sample_61 rfl (lv_at hl 3 rfl) ?_
        refine lv_iload hx hb d_C_sample_62 (lv_at hl 4 rfl) ?_
        refine g_cSi (wr := [(h_c, .inr (2, [.ref h_w, .ref h_r, .ref c_tape, .ref c_trial, .ref c_tally, .int c_latestSpent])), (h_w, .inl (cI, 8, .inl vw)), (h_r, .inl (cI, 4, .inl vr))]) fx (c_C_coin l D cI h_t h_b Nb t_size t_at vb x3 x4 _ hw) mf_C_coin w_140 ⟨rfl, rfl⟩ ⟨Nat.le_of_ble_eq_true rfl, Nat.le_of_ble_eq_true rfl⟩ hN hK hA hP hD hS [3, 4] [0, 1, 2] rfl rfl rfl rfl (by decide) rfl rfl hl.1 (Nat.le_of_ble_eq_true rfl) d_C_sample_64 ⟨Nat.zero_le _, Nat.zero_le _⟩ (fun r_5 u H locs hw hP hD hS => ?_)
        obtain ⟨tat_6, rfl⟩ : ∃ z, z = u := ⟨_, rfl⟩
        try dsimp only at hw
        have hP : va_P D gCl [(h_c, .inr (2, [.ref h_w, .ref h_r, .ref c_tape, .ref c_trial, .ref c_tally, .int c_latestSpent])), (h_w, .inl (cI, 8, .inl vw)), (h_r, .inl (cI, 4, .inl vr)), (h_t, .inr (1, [.ref h_b, .int t_size, .int tat_6])), (h_b, .inl (cI, Nb, .inl vb))] H := hP
        have hD : va_D A [(h_c, .inr (2, [.ref h_w, .ref h_r, .ref c_tape, .ref c_trial, .ref c_tally, .int c_latestSpent])), (h_w, .inl (cI, 8, .inl vw)), (h_r, .inl (cI, 4, .inl vr)), (h_t, .inr (1, [.ref h_b, .int t_size, .int tat_6])), (h_b, .inl (cI, Nb, .inl vb))] := hD
        exact hret _ _ _ (vr, tat_6) _ _ hw rfl hP hD hS d_C_sample_67
      · have hw := hw.2 c1_2
        rcases Classical.em (x2 = nI 3) with c1_3 | c1_3
        · have hw := hw.1 c1_3
          refine g_sw (nI 3) (tgt := 68) hx hb d_C_sample_1 c1_3 (by decide) (by decide) rfl (by decide) ?_
          refine lv_aload_n hx hb d_C_sample_68 rfl (lv_at hl 1 rfl) ?_
          refine lv_iload_n hx hb d_C_sample_69 rfl (lv_at hl 3 rfl) ?_
          refine g_cSi (wr := [(h_c, .inr (2, [.ref h_w, .ref h_r, .ref c_tape, .ref c_trial, .ref c_tally, .int c_latestSpent])), (h_w, .inl (cI, 8, .inl vw)), (h_r, .inl (cI, 4, .inl vr))]) fx (c_C_tosses l D cI h_t h_b Nb t_size t_at vb x3 _ hw) mf_C_tosses w_143 ⟨rfl, rfl⟩ ⟨Nat.le_of_ble_eq_true rfl, Nat.le_of_ble_eq_true rfl⟩ hN hK hA hP hD hS [3, 4] [0, 1, 2] rfl rfl rfl rfl (by decide) rfl rfl hl.1 (Nat.le_of_ble_eq_true rfl) d_C_sample_70 ⟨Nat.zero_le _, Nat.zero_le _⟩ (fun r_7 u H locs hw hP hD hS => ?_)
          obtain ⟨tat_8, rfl⟩ : ∃ z, z = u := ⟨_, rfl⟩
          try dsimp only at hw
          have hP : va_P D gCl [(h_c, .inr (2, [.ref h_w, .ref h_r, .ref c_tape, .ref c_trial, .ref c_tally, .int c_latestSpent])), (h_w, .inl (cI, 8, .inl vw)), (h_r, .inl (cI, 4, .inl vr)), (h_t, .inr (1, [.ref h_b, .int t_size, .int tat_8])), (h_b, .inl (cI, Nb, .inl vb))] H := hP
          have hD : va_D A [(h_c, .inr (2, [.ref h_w, .ref h_r, .ref c_tape, .ref c_trial, .ref c_tally, .int c_latestSpent])), (h_w, .inl (cI, 8, .inl vw)), (h_r, .inl (cI, 4, .inl vr)), (h_t, .inr (1, [.ref h_b, .int t_size, .int tat_8])), (h_b, .inl (cI, Nb, .inl vb))] := hD
          exact hret _ _ _ (vr, tat_8) _ _ hw rfl hP hD hS d_C_sample_73
        · have hw := hw.2 c1_3
          rcases Classical.em (x2 = nI 4) with c1_4 | c1_4
          · have hw := hw.1 c1_4
            refine g_sw (nI 4) (tgt := 74) hx hb d_C_sample_1 c1_4 (by decide) (by decide) rfl (by decide) ?_
            refine lv_aload_n hx hb d_C_sample_74 rfl (lv_at hl 1 rfl) ?_
            refine lv_iload_n hx hb d_C_sample_75 rfl (lv_at hl 3 rfl) ?_
            refine g_cSi (wr := [(h_c, .inr (2, [.ref h_w, .ref h_r, .ref c_tape, .ref c_trial, .ref c_tally, .int c_latestSpent])), (h_w, .inl (cI, 8, .inl vw)), (h_r, .inl (cI, 4, .inl vr))]) fx (c_C_zerosBeforeOne l D cI h_t h_b Nb t_size t_at vb x3 _ hw) mf_C_zerosBeforeOne w_146 ⟨rfl, rfl⟩ ⟨Nat.le_of_ble_eq_true rfl, Nat.le_of_ble_eq_true rfl⟩ hN hK hA hP hD hS [3, 4] [0, 1, 2] rfl rfl rfl rfl (by decide) rfl rfl hl.1 (Nat.le_of_ble_eq_true rfl) d_C_sample_76 ⟨Nat.zero_le _, Nat.zero_le _⟩ (fun r_9 u H locs hw hP hD hS => ?_)
            obtain ⟨tat_10, rfl⟩ : ∃ z, z = u := ⟨_, rfl⟩
            try dsimp only at hw
            have hP : va_P D gCl [(h_c, .inr (2, [.ref h_w, .ref h_r, .ref c_tape, .ref c_trial, .ref c_tally, .int c_latestSpent])), (h_w, .inl (cI, 8, .inl vw)), (h_r, .inl (cI, 4, .inl vr)), (h_t, .inr (1, [.ref h_b, .int t_size, .int tat_10])), (h_b, .inl (cI, Nb, .inl vb))] H := hP
            have hD : va_D A [(h_c, .inr (2, [.ref h_w, .ref h_r, .ref c_tape, .ref c_trial, .ref c_tally, .int c_latestSpent])), (h_w, .inl (cI, 8, .inl vw)), (h_r, .inl (cI, 4, .inl vr)), (h_t, .inr (1, [.ref h_b, .int t_size, .int tat_10])), (h_b, .inl (cI, Nb, .inl vb))] := hD
            exact hret _ _ _ (vr, tat_10) _ _ hw rfl hP hD hS d_C_sample_79
          · have hw := hw.2 c1_4
            rcases Classical.em (x2 = nI 5) with c1_5 | c1_5
            · have hw := hw.1 c1_5
              refine g_sw (nI 5) (tgt := 80) hx hb d_C_sample_1 c1_5 (by decide) (by decide) rfl (by decide) ?_
              refine lv_aload_n hx hb d_C_sample_80 rfl (lv_at hl 0 rfl) ?_
              refine lv_aload_n hx hb d_C_sample_81 rfl (lv_at hl 1 rfl) ?_
              refine lv_iload_n hx hb d_C_sample_82 rfl (lv_at hl 3 rfl) ?_
              refine g_cVi (wr := [(h_w, .inl (cI, 8, .inl vw))]) fx (c_C_order l D cI h_c h_r h_t h_b h_w c_tape c_trial c_tally Nb c_latestSpent vr t_size t_at vb x3 _ hw) mf_C_order w_149 ⟨rfl, rfl⟩ ⟨Nat.le_of_ble_eq_true rfl, Nat.le_of_ble_eq_true rfl⟩ hN hK hA hP hD hS [0, 2, 3, 4] [1] rfl rfl rfl rfl (by decide) 0 rfl rfl rfl rfl hl.1 (Nat.le_of_ble_eq_true rfl) d_C_sample_83 ⟨Nat.zero_le _, Nat.zero_le _⟩ (fun r_11 u H locs hw hP hD hS => ?_)
              obtain ⟨vr_12, tat_13⟩ := u
              try dsimp only at hw
              have hP : va_P D gCl [(h_w, .inl (cI, 8, .inl vw)), (h_c, .inr (2, [.ref h_w, .ref h_r, .ref c_tape, .ref c_trial, .ref c_tally, .int c_latestSpent])), (h_r, .inl (cI, 4, .inl vr_12)), (h_t, .inr (1, [.ref h_b, .int t_size, .int tat_13])), (h_b, .inl (cI, Nb, .inl vb))] H := hP
              have hD : va_D A [(h_w, .inl (cI, 8, .inl vw)), (h_c, .inr (2, [.ref h_w, .ref h_r, .ref c_tape, .ref c_trial, .ref c_tally, .int c_latestSpent])), (h_r, .inl (cI, 4, .inl vr_12)), (h_t, .inr (1, [.ref h_b, .int t_size, .int tat_13])), (h_b, .inl (cI, Nb, .inl vb))] := hD
              exact hret _ _ _ (vr_12, tat_13) _ _ hw rfl (gSubP hP [1, 0, 2, 3, 4] rfl) (hD.sub [1, 0, 2, 3, 4] rfl rfl) hS d_C_sample_86
            · have hw := hw.2 c1_5
              rcases Classical.em (x2 = nI 6) with c1_6 | c1_6
              · have hw := hw.1 c1_6
                refine g_sw (nI 6) (tgt := 87) hx hb d_C_sample_1 c1_6 (by decide) (by decide) rfl (by decide) ?_
                refine lv_aload_n hx hb d_C_sample_87 rfl (lv_at hl 1 rfl) ?_
                refine lv_iload_n hx hb d_C_sample_88 rfl (lv_at hl 3 rfl) ?_
                refine lv_iload hx hb d_C_sample_89 (lv_at hl 4 rfl) ?_
                refine g_cSi (wr := [(h_c, .inr (2, [.ref h_w, .ref h_r, .ref c_tape, .ref c_trial, .ref c_tally, .int c_latestSpent])), (h_w, .inl (cI, 8, .inl vw)), (h_r, .inl (cI, 4, .inl vr))]) fx (c_C_choice l D cI h_t h_b Nb t_size t_at vb x3 x4 _ hw) mf_C_choice w_157 ⟨rfl, rfl⟩ ⟨Nat.le_of_ble_eq_true rfl, Nat.le_of_ble_eq_true rfl⟩ hN hK hA hP hD hS [3, 4] [0, 1, 2] rfl rfl rfl rfl (by decide) rfl rfl hl.1 (Nat.le_of_ble_eq_true rfl) d_C_sample_91 ⟨Nat.zero_le _, Nat.zero_le _⟩ (fun r_14 u H locs hw hP hD hS => ?_)
                obtain ⟨tat_15, rfl⟩ : ∃ z, z = u := ⟨_, rfl⟩
                try dsimp only at hw
                have hP : va_P D gCl [(h_c, .inr (2, [.ref h_w, .ref h_r, .ref c_tape, .ref c_trial, .ref c_tally, .int c_latestSpent])), (h_w, .inl (cI, 8, .inl vw)), (h_r, .inl (cI, 4, .inl vr)), (h_t, .inr (1, [.ref h_b, .int t_size, .int tat_15])), (h_b, .inl (cI, Nb, .inl vb))] H := hP
                have hD : va_D A [(h_c, .inr (2, [.ref h_w, .ref h_r, .ref c_tape, .ref c_trial, .ref c_tally, .int c_latestSpent])), (h_w, .inl (cI, 8, .inl vw)), (h_r, .inl (cI, 4, .inl vr)), (h_t, .inr (1, [.ref h_b, .int t_size, .int tat_15])), (h_b, .inl (cI, Nb, .inl vb))] := hD
                exact hret _ _ _ (vr, tat_15) _ _ hw rfl hP hD hS d_C_sample_94
              · have hw := hw.2 c1_6
                rcases Classical.em (x2 = nI 7) with c1_7 | c1_7
                · have hw := hw.1 c1_7
                  refine g_sw (nI 7) (tgt := 95) hx hb d_C_sample_1 c1_7 (by decide) (by decide) rfl (by decide) ?_
                  refine lv_aload_n hx hb d_C_sample_95 rfl (lv_at hl 0 rfl) ?_
                  refine lv_aload_n hx hb d_C_sample_96 rfl (lv_at hl 1 rfl) ?_
                  refine g_cVi (wr := [(h_r, .inl (cI, 4, .inl vr))]) fx (c_C_share l D cI h_c h_w h_t h_b h_r c_tape c_trial c_tally Nb c_latestSpent vw t_size t_at vb _ hw) mf_C_share w_160 ⟨rfl, rfl⟩ ⟨Nat.le_of_ble_eq_true rfl, Nat.le_of_ble_eq_true rfl⟩ hN hK hA hP hD hS [0, 1, 3, 4] [2] rfl rfl rfl rfl (by decide) 0 rfl rfl rfl rfl hl.1 (Nat.le_of_ble_eq_true rfl) d_C_sample_97 ⟨Nat.zero_le _, Nat.zero_le _⟩ (fun r_16 u H locs hw hP hD hS => ?_)
                  obtain ⟨tat_17, rfl⟩ : ∃ z, z = u := ⟨_, rfl⟩
                  try dsimp only at hw
                  have hP : va_P D gCl [(h_r, .inl (cI, 4, .inl vr)), (h_c, .inr (2, [.ref h_w, .ref h_r, .ref c_tape, .ref c_trial, .ref c_tally, .int c_latestSpent])), (h_w, .inl (cI, 8, .inl vw)), (h_t, .inr (1, [.ref h_b, .int t_size, .int tat_17])), (h_b, .inl (cI, Nb, .inl vb))] H := hP
                  have hD : va_D A [(h_r, .inl (cI, 4, .inl vr)), (h_c, .inr (2, [.ref h_w, .ref h_r, .ref c_tape, .ref c_trial, .ref c_tally, .int c_latestSpent])), (h_w, .inl (cI, 8, .inl vw)), (h_t, .inr (1, [.ref h_b, .int t_size, .int tat_17])), (h_b, .inl (cI, Nb, .inl vb))] := hD
                  exact hret _ _ _ (vr, tat_17) _ _ hw rfl (gSubP hP [1, 2, 0, 3, 4] rfl) (hD.sub [1, 2, 0, 3, 4] rfl rfl) hS d_C_sample_100
                · have hw := hw.2 c1_7
                  refine lv_tableOut (tgt := 101) hx hb d_C_sample_1 (by have h := g_out (x := x2) (n := 8) (by decide) (fun j hj => by rcases (show j = 0 ∨ j = 1 ∨ j = 2 ∨ j = 3 ∨ j = 4 ∨ j = 5 ∨ j = 6 ∨ j = 7 by omega) with rfl | rfl | rfl | rfl | rfl | rfl | rfl | rfl <;> assumption); omega) (by decide) ?_
                  refine lv_iconst (v := (-1)) hx hb d_C_sample_101 (by decide) ?_
                  exact hret _ _ _ (vr, t_at) _ _ hw rfl hP hD hS d_C_sample_102
