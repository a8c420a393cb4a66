def wp_C_draw (post : Int32 → Int32 → (Nat → Int32) → Int32 → Int32 → (Nat → Int32) → Prop) (Nb : Nat) (c_latestSpent : Int32) (vw : Nat → Int32) (vr : Nat → Int32) (t_size : Int32) (t_at : Int32) (vb : Nat → Int32) (x1 : Int32) (x2 : Int32) (x3 : Int32) : Prop :=
  wp_C_isOne (fun r_1 => ((¬ r_1 = 0 → wp_T_rewind (fun tat_2 => wp_C_sample (fun r_3 vr_4 tat_5 => ((¬ r_3 = (-1) → wp_T_readSoFar (fun r_6 => wp_T_dropRead (fun tsize_7 tat_8 vb_9 => post r_3 r_6 vr_4 tsize_7 tat_8 vb_9) Nb t_size tat_5 vb) t_size tat_5) ∧ (r_3 = (-1) → post (-1) c_latestSpent vr_4 t_size tat_5 vb))) Nb c_latestSpent vw vr t_size tat_2 vb x1 x2 x3) t_size t_at) ∧ (r_1 = 0 → post (-1) c_latestSpent vr t_size t_at vb))) c_latestSpent vw x1 x2 x3
abbrev rm_C_draw : Room := { frames := 5, cells := 0, slots := 0, locals := 118 }
theorem mf_C_draw : gFV y_C_draw b_C_draw 5 (some .int) 3 := ⟨w_112, w_1, ⟨by decide, by decide, by decide +kernel⟩, w_110, w_111⟩
set_option maxHeartbeats 4000000 in
set_option maxRecDepth 100000 in
theorem c_C_draw (l : Launch) (D : va_G) (cI : ClassId) (h_c : Nat) (h_w : Nat) (h_r : Nat) (h_t : Nat) (h_b : Nat) (c_trial : Nat) (c_tally : Nat) (Nb : Nat) (c_latestSpent : Int32) (vw : Nat → Int32) (vr : Nat → Int32) (t_size : Int32) (t_at : Int32) (vb : Nat → Int32) (x1 : Int32) (x2 : Int32) (x3 : Int32) (post : Int32 → Int32 → (Nat → Int32) → Int32 → Int32 → (Nat → Int32) → Prop) (hw : wp_C_draw post Nb c_latestSpent vw vr t_size t_at vb x1 x2 x3) :
    gMi l D [(cI, .int)] y_C_draw b_C_draw 5 .int rm_C_draw [.ref h_c, .int x1, .int x2, .int x3] [(h_c, .inr (2, [.ref h_w, .ref h_r, .ref h_t, .ref c_trial, .ref c_tally, .int c_latestSpent])), (h_w, .inl (cI, 8, .inl vw)), (h_r, .inl (cI, 4, .inl vr)), (h_t, .inr (1, [.ref h_b, .int t_size, .int t_at])), (h_b, .inl (cI, Nb, .inl vb))] (S := Int32 × (Nat → Int32) × Int32 × Int32 × (Nat → Int32)) (fun u => [(h_c, .inr (2, [.ref h_w, .ref h_r, .ref h_t, .ref c_trial, .ref c_tally, .int u.1])), (h_w, .inl (cI, 8, .inl vw)), (h_r, .inl (cI, 4, .inl u.2.1)), (h_t, .inr (1, [.ref h_b, .int u.2.2.1, .int u.2.2.2.1])), (h_b, .inl (cI, Nb, .inl u.2.2.2.2))]) (fun r u => post r u.1 u.2.1 u.2.2.1 u.2.2.2.1 u.2.2.2.2) := by
  rw [wp_C_draw] at hw
  refine gMi.of (by decide) (Nat.le_of_ble_eq_true rfl) (fun p e s m args below meth c A Q ls hx hb hml hown hts hN hK hA hP hD hret hl => ?_)
  have fx : CallFix p m c b_C_draw 5 s args gG "TapeCounter" := ⟨hx, hb, hml, hown, hts⟩
  have hl : lv_has ls 5 [(0, .ref h_c), (1, .int x1), (2, .int x2), (3, .int x3)] := hl
  have hS : va_S A s.heap s.heap [] := va_S.rf
  refine lv_aload_n hx hb d_C_draw_0 rfl (lv_at hl 0 rfl) ?_
  refine lv_iload_n hx hb d_C_draw_1 rfl (lv_at hl 1 rfl) ?_
  refine lv_iload_n hx hb d_C_draw_2 rfl (lv_at hl 2 rfl) ?_
  refine lv_iload_n hx hb d_C_draw_3 rfl (lv_at hl 3 rfl) ?_
  refine g_cVi (wr := [(h_r, .inl (cI, 4, .inl vr)), (h_t, .inr (1, [.ref h_b, .int t_size, .int t_at])), (h_b, .inl (cI, Nb, .inl vb))]) fx (c_C_isOne l D cI h_c h_w h_r h_t c_trial c_tally c_latestSpent vw x1 x2 x3 _ hw) mf_C_isOne w_113 ⟨rfl, rfl⟩ ⟨Nat.le_of_ble_eq_true rfl, Nat.le_of_ble_eq_true rfl⟩ hN hK hA hP hD hS [0, 1] [2, 3, 4] rfl rfl rfl rfl (by decide) 0 rfl rfl rfl rfl hl.1 (Nat.le_of_ble_eq_true rfl) d_C_draw_4 ⟨Nat.zero_le _, Nat.zero_le _⟩ (fun r_1 u H locs hw hP hD hS => ?_)
  try dsimp only at hw
  have hP : va_P D gCl [(h_r, .inl (cI, 4, .inl vr)), (h_t, .inr (1, [.ref h_b, .int t_size, .int t_at])), (h_b, .inl (cI, Nb, .inl vb)), (h_c, .inr (2, [.ref h_w, .ref h_r, .ref h_t, .ref c_trial, .ref c_tally, .int c_latestSpent])), (h_w, .inl (cI, 8, .inl vw))] H := hP
  have hD : va_D A [(h_r, .inl (cI, 4, .inl vr)), (h_t, .inr (1, [.ref h_b, .int t_size, .int t_at])), (h_b, .inl (cI, Nb, .inl vb)), (h_c, .inr (2, [.ref h_w, .ref h_r, .ref h_t, .ref c_trial, .ref c_tally, .int c_latestSpent])), (h_w, .inl (cI, 8, .inl vw))] := hD
  refine lv_if_ne (tgt := 12) hx hb d_C_draw_7 (by decide) (fun c7 => ?_) (fun c7 => ?_)
  · have hw := hw.1 c7
    refine lv_aload_n hx hb d_C_draw_12 rfl (lv_at hl 0 rfl) ?_
    refine gGet fx hK hP 3 rfl inC rfl (k := 2) (by decide) w_57 rfl d_C_draw_13 ?_
    refine g_cVv (wr := [(h_r, .inl (cI, 4, .inl vr)), (h_b, .inl (cI, Nb, .inl vb)), (h_c, .inr (2, [.ref h_w, .ref h_r, .ref h_t, .ref c_trial, .ref c_tally, .int c_latestSpent])), (h_w, .inl (cI, 8, .inl vw))]) fx (c_T_rewind l D cI h_t h_b t_size t_at _ hw) mf_T_rewind w_114 ⟨rfl, rfl⟩ ⟨Nat.le_of_ble_eq_true rfl, Nat.le_of_ble_eq_true rfl⟩ hN hK hA hP hD hS [1] [0, 2, 3, 4] rfl rfl rfl rfl (by decide) 0 rfl rfl rfl rfl hl.1 (Nat.le_of_ble_eq_true rfl) d_C_draw_16 ⟨Nat.zero_le _, Nat.zero_le _⟩ (fun u H locs hw hP hD hS => ?_)
    obtain ⟨tat_2, rfl⟩ : ∃ z, z = u := ⟨_, rfl⟩
    try dsimp only at hw
    have hP : va_P D gCl [(h_r, .inl (cI, 4, .inl vr)), (h_b, .inl (cI, Nb, .inl vb)), (h_c, .inr (2, [.ref h_w, .ref h_r, .ref h_t, .ref c_trial, .ref c_tally, .int c_latestSpent])), (h_w, .inl (cI, 8, .inl vw)), (h_t, .inr (1, [.ref h_b, .int t_size, .int tat_2]))] H := hP
    have hD : va_D A [(h_r, .inl (cI, 4, .inl vr)), (h_b, .inl (cI, Nb, .inl vb)), (h_c, .inr (2, [.ref h_w, .ref h_r, .ref h_t, .ref c_trial, .ref c_tally, .int c_latestSpent])), (h_w, .inl (cI, 8, .inl vw)), (h_t, .inr (1, [.ref h_b, .int t_size, .int tat_2]))] := hD
    refine lv_aload_n hx hb d_C_draw_19 rfl (lv_at hl 0 rfl) ?_
    refine lv_aload_n hx hb d_C_draw_20 rfl (lv_at hl 0 rfl) ?_
    refine gGet fx hK hP 2 rfl inC rfl (k := 2) (by decide) w_57 rfl d_C_draw_21 ?_
    refine lv_iload_n hx hb d_C_draw_24 rfl (lv_at hl 1 rfl) ?_
    refine lv_iload_n hx hb d_C_draw_25 rfl (lv_at hl 2 rfl) ?_
    refine lv_iload_n hx hb d_C_draw_26 rfl (lv_at hl 3 rfl) ?_
    refine g_cVi (wr := []) fx (c_C_sample l D cI h_c h_w h_r h_t h_b h_t c_trial c_tally Nb c_latestSpent vw vr t_size tat_2 vb x1 x2 x3 _ hw) mf_C_sample w_118 ⟨rfl, rfl⟩ ⟨Nat.le_of_ble_eq_true rfl, Nat.le_of_ble_eq_true rfl⟩ hN hK hA hP hD hS [2, 3, 0, 4, 1] [] rfl rfl rfl rfl (by decide) 0 rfl rfl rfl rfl hl.1 (Nat.le_of_ble_eq_true rfl) d_C_draw_27 ⟨Nat.zero_le _, Nat.zero_le _⟩ (fun r_3 u H locs hw hP hD hS => ?_)
    obtain ⟨vr_4, tat_5⟩ := u
    try dsimp only at hw
    have hP : va_P D gCl [(h_c, .inr (2, [.ref h_w, .ref h_r, .ref h_t, .ref c_trial, .ref c_tally, .int c_latestSpent])), (h_w, .inl (cI, 8, .inl vw)), (h_r, .inl (cI, 4, .inl vr_4)), (h_t, .inr (1, [.ref h_b, .int t_size, .int tat_5])), (h_b, .inl (cI, Nb, .inl vb))] H := hP
    have hD : va_D A [(h_c, .inr (2, [.ref h_w, .ref h_r, .ref h_t, .ref c_trial, .ref c_tally, .int c_latestSpent])), (h_w, .inl (cI, 8, .inl vw)), (h_r, .inl (cI, 4, .inl vr_4)), (h_t, .inr (1, [.ref h_b, .int t_size, .int tat_5])), (h_b, .inl (cI, Nb, .inl vb))] := hD
    refine lv_istore (lv' := [(4, .int r_3), (0, .ref h_c), (1, .int x1), (2, .int x2), (3, .int x3)]) hx hb d_C_draw_30 hl (by decide) rfl (fun ls hl => ?_)
    refine lv_iload hx hb d_C_draw_32 (lv_at hl 0 rfl) ?_
    refine lv_iconst (v := (-1)) hx hb d_C_draw_34 (by decide) ?_
    refine lv_icmp_ne (tgt := 40) hx hb d_C_draw_35 (by decide) (fun c35 => ?_) (fun c35 => ?_)
    · have hw := hw.1 c35
      refine lv_aload_n hx hb d_C_draw_40 rfl (lv_at hl 1 rfl) ?_
      refine lv_aload_n hx hb d_C_draw_41 rfl (lv_at hl 1 rfl) ?_
      refine gGet fx hK hP 0 rfl inC rfl (k := 2) (by decide) w_57 rfl d_C_draw_42 ?_
      refine g_cVi (wr := [(h_c, .inr (2, [.ref h_w, .ref h_r, .ref h_t, .ref c_trial, .ref c_tally, .int c_latestSpent])), (h_w, .inl (cI, 8, .inl vw)), (h_r, .inl (cI, 4, .inl vr_4)), (h_b, .inl (cI, Nb, .inl vb))]) fx (c_T_readSoFar l D cI h_t h_b t_size tat_5 _ hw) mf_T_readSoFar w_164 ⟨rfl, rfl⟩ ⟨Nat.le_of_ble_eq_true rfl, Nat.le_of_ble_eq_true rfl⟩ hN hK hA hP hD hS [3] [0, 1, 2, 4] rfl rfl rfl rfl (by decide) 0 rfl rfl rfl rfl hl.1 (Nat.le_of_ble_eq_true rfl) d_C_draw_45 ⟨Nat.zero_le _, Nat.zero_le _⟩ (fun r_6 u H locs hw hP hD hS => ?_)
      try dsimp only at hw
      have hP : va_P D gCl [(h_c, .inr (2, [.ref h_w, .ref h_r, .ref h_t, .ref c_trial, .ref c_tally, .int c_latestSpent])), (h_w, .inl (cI, 8, .inl vw)), (h_r, .inl (cI, 4, .inl vr_4)), (h_b, .inl (cI, Nb, .inl vb)), (h_t, .inr (1, [.ref h_b, .int t_size, .int tat_5]))] H := hP
      have hD : va_D A [(h_c, .inr (2, [.ref h_w, .ref h_r, .ref h_t, .ref c_trial, .ref c_tally, .int c_latestSpent])), (h_w, .inl (cI, 8, .inl vw)), (h_r, .inl (cI, 4, .inl vr_4)), (h_b, .inl (cI, Nb, .inl vb)), (h_t, .inr (1, [.ref h_b, .int t_size, .int tat_5]))] := hD
      refine gPut fx hK hP hD hS 0 rfl inC tyC nmC rfl (k := 5) (by decide) w_60 rfl rfl rfl (Nat.le_of_ble_eq_true rfl) d_C_draw_48 (fun H locs hP hD hS => ?_)
      have hP : va_P D gCl [(h_c, .inr (2, [.ref h_w, .ref h_r, .ref h_t, .ref c_trial, .ref c_tally, .int r_6])), (h_w, .inl (cI, 8, .inl vw)), (h_r, .inl (cI, 4, .inl vr_4)), (h_b, .inl (cI, Nb, .inl vb)), (h_t, .inr (1, [.ref h_b, .int t_size, .int tat_5]))] H := hP
      have hD : va_D A [(h_c, .inr (2, [.ref h_w, .ref h_r, .ref h_t, .ref c_trial, .ref c_tally, .int r_6])), (h_w, .inl (cI, 8, .inl vw)), (h_r, .inl (cI, 4, .inl vr_4)), (h_b, .inl (cI, Nb, .inl vb)), (h_t, .inr (1, [.ref h_b, .int t_size, .int tat_5]))] := hD
      refine lv_aload_n hx hb d_C_draw_51 rfl (lv_at hl 1 rfl) ?_
      refine gGet fx hK hP 0 rfl inC rfl (k := 2) (by decide) w_57 rfl d_C_draw_52 ?_
      refine g_cVv (wr := [(h_c, .inr (2, [.ref h_w, .ref h_r, .ref h_t, .ref c_trial, .ref c_tally, .int r_6])), (h_w, .inl (cI, 8, .inl vw)), (h_r, .inl (cI, 4, .inl vr_4))]) fx (c_T_dropRead l D cI h_t h_b Nb t_size tat_5 vb _ hw) mf_T_dropRead w_168 ⟨rfl, rfl⟩ ⟨Nat.le_of_ble_eq_true rfl, Nat.le_of_ble_eq_true rfl⟩ hN hK hA hP hD hS [4, 3] [0, 1, 2] rfl rfl rfl rfl (by decide) 0 rfl rfl rfl rfl hl.1 (Nat.le_of_ble_eq_true rfl) d_C_draw_55 ⟨Nat.zero_le _, Nat.zero_le _⟩ (fun u H locs hw hP hD hS => ?_)
      obtain ⟨tsize_7, tat_8, vb_9⟩ := u
      try dsimp only at hw
      have hP : va_P D gCl [(h_c, .inr (2, [.ref h_w, .ref h_r, .ref h_t, .ref c_trial, .ref c_tally, .int r_6])), (h_w, .inl (cI, 8, .inl vw)), (h_r, .inl (cI, 4, .inl vr_4)), (h_t, .inr (1, [.ref h_b, .int tsize_7, .int tat_8])), (h_b, .inl (cI, Nb, .inl vb_9))] H := hP
      have hD : va_D A [(h_c, .inr (2, [.ref h_w, .ref h_r, .ref h_t, .ref c_trial, .ref c_tally, .int r_6])), (h_w, .inl (cI, 8, .inl vw)), (h_r, .inl (cI, 4, .inl vr_4)), (h_t, .inr (1, [.ref h_b, .int tsize_7, .int tat_8])), (h_b, .inl (cI, Nb, .inl vb_9))] := hD
      refine lv_iload hx hb d_C_draw_58 (lv_at hl 0 rfl) ?_
      exact hret _ _ _ (r_6, vr_4, tsize_7, tat_8, vb_9) _ _ hw rfl hP hD hS d_C_draw_60
    · have hw := hw.2 c35
      refine lv_iconst (v := (-1)) hx hb d_C_draw_38 (by decide) ?_
      exact hret _ _ _ (c_latestSpent, vr_4, t_size, tat_5, vb) _ _ hw rfl hP hD hS d_C_draw_39
  · have hw := hw.2 c7
    refine lv_iconst (v := (-1)) hx hb d_C_draw_10 (by decide) ?_
    exact hret _ _ _ (c_latestSpent, vr, t_size, t_at, vb) _ _ hw rfl (gSubP hP [3, 4, 0, 1, 2] rfl) (hD.sub [3, 4, 0, 1, 2] rfl rfl) hS d_C_draw_11
def wpF_C_tryAllTapes_19 (post : (Nat → Int32) → Int32 → Int32 → (Nat → Int32) → Int32 → Int32 → Int32 → Int32 → Prop) (Nb : Nat) (c_latestSpent : Int32) (vw : Nat → Int32) (x1 : Int32) (x2 : Int32) (x3 : Int32) (x4 : Int32) (x5 : Int32) (x6 : Int32) (K_19 : (Nat → Int32) → Int32 → Int32 → (Nat → Int32) → Int32 → Int32 → Int32 → Int32 → Int32 → Prop) (vr : Nat → Int32) (t_size : Int32) (t_at : Int32) (vb : Nat → Int32) (y_hits : Int32) (y_runOuts : Int32) (y_bitsRead : Int32) (y_fewestBits : Int32) (x8 : Int32) : Prop :=
  ((x6 ≤ x8 → post vr t_size t_at vb y_hits y_runOuts y_bitsRead y_fewestBits) ∧ (¬ x6 ≤ x8 → wp_T_clear (fun tsize_5 tat_6 => wp_T_append (fun r_7 tsize_8 vb_9 => wp_C_sample (fun r_10 vr_11 tat_12 => wp_T_readSoFar (fun r_13 => wp_T_readSoFar (fun r_14 => wp_Y_add (fun yhits_15 yrunOuts_16 ybitsRead_17 yfewestBits_18 => K_19 vr_11 tsize_8 tat_12 vb_9 yhits_15 yrunOuts_16 ybitsRead_17 yfewestBits_18 (x8 + (if (nI 1) < ((nI 1) <<< ((x4 - r_13) &&& 31)) then ((nI 1) <<< ((x4 - r_13) &&& 31)) else (nI 1)))) y_hits y_runOuts y_bitsRead y_fewestBits r_10 x5 r_14 ((nI 1) <<< ((x4 - r_13) &&& 31))) tsize_8 tat_12) tsize_8 tat_12) Nb c_latestSpent vw vr tsize_8 tat_6 vb_9 x1 x2 x3) Nb tsize_5 tat_6 vb x8 x4) t_size t_at))
def wp_C_tryAllTapes (post : (Nat → Int32) → Int32 → Int32 → (Nat → Int32) → Int32 → Int32 → Int32 → Int32 → Prop) (Nb : Nat) (c_latestSpent : Int32) (vw : Nat → Int32) (vr : Nat → Int32) (t_size : Int32) (t_at : Int32) (vb : Nat → Int32) (y_hits : Int32) (y_runOuts : Int32) (y_bitsRead : Int32) (y_fewestBits : Int32) (x1 : Int32) (x2 : Int32) (x3 : Int32) (x4 : Int32) (x5 : Int32) : Prop :=
  wp_Y_clear (fun yhits_1 yrunOuts_2 ybitsRead_3 yfewestBits_4 => (∃ n, gL9 (wpF_C_tryAllTapes_19 post Nb c_latestSpent vw x1 x2 x3 x4 x5 ((nI 1) <<< (x4 &&& 31))) n vr t_size t_at vb yhits_1 yrunOuts_2 ybitsRead_3 yfewestBits_4 (nI 0))) y_hits y_runOuts y_bitsRead y_fewestBits
abbrev rm_C_tryAllTapes : Room := { frames := 5, cells := 0, slots := 0, locals := 118 }
theorem mf_C_tryAllTapes : gFV y_C_tryAllTapes b_C_tryAllTapes 10 none 5 := ⟨w_190, w_1, ⟨by decide, by decide, by decide +kernel⟩, w_189, ws_1_6⟩
set_option maxHeartbeats 4000000 in
set_option maxRecDepth 100000 in
theorem c_C_tryAllTapes (l : Launch) (D : va_G) (cI : ClassId) (h_c : Nat) (h_w : Nat) (h_r : Nat) (h_t : Nat) (h_b : Nat) (h_y : Nat) (c_tape : Nat) (Nb : Nat) (c_latestSpent : Int32) (vw : Nat → Int32) (vr : Nat → Int32) (t_size : Int32) (t_at : Int32) (vb : Nat → Int32) (y_hits : Int32) (y_runOuts : Int32) (y_bitsRead : Int32) (y_fewestBits : Int32) (x1 : Int32) (x2 : Int32) (x3 : Int32) (x4 : Int32) (x5 : Int32) (post : (Nat → Int32) → Int32 → Int32 → (Nat → Int32) → Int32 → Int32 → Int32 → Int32 → Prop) (hw : wp_C_tryAllTapes post Nb c_latestSpent vw vr t_size t_at vb y_hits y_runOuts y_bitsRead y_fewestBits x1 x2 x3 x4 x5) :
    gMv l D [(cI, .int)] y_C_tryAllTapes b_C_tryAllTapes 10 rm_C_tryAllTapes [.ref h_c, .int x1, .int x2, .int x3, .int x4, .int x5] [(h_c, .inr (2, [.ref h_w, .ref h_r, .ref c_tape, .ref h_t, .ref h_y, .int c_latestSpent])), (h_w, .inl (cI, 8, .inl vw)), (h_r, .inl (cI, 4, .inl vr)), (h_t, .inr (1, [.ref h_b, .int t_size, .int t_at])), (h_b, .inl (cI, Nb, .inl vb)), (h_y, .inr (0, [.int y_hits, .int y_runOuts, .int y_bitsRead, .int y_fewestBits]))] (S := (Nat → Int32) × Int32 × Int32 × (Nat → Int32) × Int32 × Int32 × Int32 × Int32) (fun u => [(h_c, .inr (2, [.ref h_w, .ref h_r, .ref c_tape, .ref h_t, .ref h_y, .int c_latestSpent])), (h_w, .inl (cI, 8, .inl vw)), (h_r, .inl (cI, 4, .inl u.1)), (h_t, .inr (1, [.ref h_b, .int u.2.1, .int u.2.2.1])), (h_b, .inl (cI, Nb, .inl u.2.2.2.1)), (h_y, .inr (0, [.int u.2.2.2.2.1, .int u.2.2.2.2.2.1, .int u.2.2.2.2.2.2.1, .int u.2.2.2.2.2.2.2]))]) (fun u => post u.1 u.2.1 u.2.2.1 u.2.2.2.1 u.2.2.2.2.1 u.2.2.2.2.2.1 u.2.2.2.2.2.2.1 u.2.2.2.2.2.2.2) := by
  rw [wp_C_tryAllTapes] at hw
  refine gMv.of (by decide) (Nat.le_of_ble_eq_true rfl) (fun p e s m args below meth c A Q ls hx hb hml hown hts hN hK hA hP hD hret hl => ?_)
  have fx : CallFix p m c b_C_tryAllTapes 10 s args gG "TapeCounter" := ⟨hx, hb, hml, hown, hts⟩
  have hl : lv_has ls 10 [(0, .ref h_c), (1, .int x1), (2, .int x2), (3, .int x3), (4, .int x4), (5, .int x5)] := hl
  have hS : va_S A s.heap s.heap [] := va_S.rf
  refine lv_aload_n hx hb d_C_tryAllTapes_0 rfl (lv_at hl 0 rfl) ?_
  refine gGet fx hK hP 0 rfl inC rfl (k := 4) (by decide) w_59 rfl d_C_tryAllTapes_1 ?_
  refine g_cVv (wr := [(h_c, .inr (2, [.ref h_w, .ref h_r, .ref c_tape, .ref h_t, .ref h_y, .int c_latestSpent])), (h_w, .inl (cI, 8, .inl vw)), (h_r, .inl (cI, 4, .inl vr)), (h_t, .inr (1, [.ref h_b, .int t_size, .int t_at])), (h_b, .inl (cI, Nb, .inl vb))]) fx (c_Y_clear l D cI h_y y_hits y_runOuts y_bitsRead y_fewestBits _ hw) mf_Y_clear w_191 ⟨rfl, rfl⟩ ⟨Nat.le_of_ble_eq_true rfl, Nat.le_of_ble_eq_true rfl⟩ hN hK hA hP hD hS [5] [0, 1, 2, 3, 4] rfl rfl rfl rfl (by decide) 0 rfl rfl rfl rfl hl.1 (Nat.le_of_ble_eq_true rfl) d_C_tryAllTapes_4 ⟨Nat.zero_le _, Nat.zero_le _⟩ (fun u H locs hw hP hD hS => ?_)
  obtain ⟨yhits_1, yrunOuts_2, ybitsRead_3, yfewestBits_4⟩ := u
  try dsimp only at hw
  have hP : va_P D gCl [(h_c, .inr (2, [.ref h_w, .ref h_r, .ref c_tape, .ref h_t, .ref h_y, .int c_latestSpent])), (h_w, .inl (cI, 8, .inl vw)), (h_r, .inl (cI, 4, .inl vr)), (h_t, .inr (1, [.ref h_b, .int t_size, .int t_at])), (h_b, .inl (cI, Nb, .inl vb)), (h_y, .inr (0, [.int yhits_1, .int yrunOuts_2, .int ybitsRead_3, .int yfewestBits_4]))] H := hP
  have hD : va_D A [(h_c, .inr (2, [.ref h_w, .ref h_r, .ref c_tape, .ref h_t, .ref h_y, .int c_latestSpent])), (h_w, .inl (cI, 8, .inl vw)), (h_r, .inl (cI, 4, .inl vr)), (h_t, .inr (1, [.ref h_b, .int t_size, .int t_at])), (h_b, .inl (cI, Nb, .inl vb)), (h_y, .inr (0, [.int yhits_1, .int yrunOuts_2, .int ybitsRead_3, .int yfewestBits_4]))] := hD
  refine lv_iconst (v := (nI 1)) hx hb d_C_tryAllTapes_7 (by decide) ?_
  refine lv_iload hx hb d_C_tryAllTapes_8 (lv_at hl 4 rfl) ?_
  refine lv_ishl hx hb d_C_tryAllTapes_10 ?_
  refine lv_istore (lv' := [(6, .int ((nI 1) <<< (x4 &&& 31))), (0, .ref h_c), (1, .int x1), (2, .int x2), (3, .int x3), (4, .int x4), (5, .int x5)]) hx hb d_C_tryAllTapes_11 hl (by decide) rfl (fun ls hl => ?_)
  refine lv_iconst (v := (nI 1)) hx hb d_C_tryAllTapes_13 (by decide) ?_
  refine lv_istore (lv' := [(7, .int (nI 1)), (6, .int ((nI 1) <<< (x4 &&& 31))), (0, .ref h_c), (1, .int x1), (2, .int x2), (3, .int x3), (4, .int x4), (5, .int x5)]) hx hb d_C_tryAllTapes_14 hl (by decide) rfl (fun ls hl => ?_)
  refine lv_iconst (v := (nI 0)) hx hb d_C_tryAllTapes_16 (by decide) ?_
  refine lv_istore (lv' := [(8, .int (nI 0)), (7, .int (nI 1)), (6, .int ((nI 1) <<< (x4 &&& 31))), (0, .ref h_c), (1, .int x1), (2, .int x2), (3, .int x3), (4, .int x4), (5, .int x5)]) hx hb d_C_tryAllTapes_17 hl (by decide) rfl (fun ls hl => ?_)
  obtain ⟨n_19, hw⟩ := hw
  have k_19 : ∀ (x6 : Int32) (n_19 : Nat) (vr : Nat → Int32) (t_size : Int32) (t_at : Int32) (vb : Nat → Int32) (y_hits : Int32) (y_runOuts : Int32) (y_bitsRead : Int32) (y_fewestBits : Int32) (x8 : Int32), gL9 (wpF_C_tryAllTapes_19 post Nb c_latestSpent vw x1 x2 x3 x4 x5 x6) n_19 vr t_size t_at vb y_hits y_runOuts y_bitsRead y_fewestBits x8 → ∀ (H : Heap) (locs : List Loc) (ls : Array Slot), va_P D gCl [(h_c, .inr (2, [.ref h_w, .ref h_r, .ref c_tape, .ref h_t, .ref h_y, .int c_latestSpent])), (h_w, .inl (cI, 8, .inl vw)), (h_r, .inl (cI, 4, .inl vr)), (h_t, .inr (1, [.ref h_b, .int t_size, .int t_at])), (h_b, .inl (cI, Nb, .inl vb)), (h_y, .inr (0, [.int y_hits, .int y_runOuts, .int y_bitsRead, .int y_fewestBits]))] H → va_D A [(h_c, .inr (2, [.ref h_w, .ref h_r, .ref c_tape, .ref h_t, .ref h_y, .int c_latestSpent])), (h_w, .inl (cI, 8, .inl vw)), (h_r, .inl (cI, 4, .inl vr)), (h_t, .inr (1, [.ref h_b, .int t_size, .int t_at])), (h_b, .inl (cI, Nb, .inl vb)), (h_y, .inr (0, [.int y_hits, .int y_runOuts, .int y_bitsRead, .int y_fewestBits]))] → va_S A s.heap H locs → lv_has ls 10 [(8, .int x8), (6, .int x6), (0, .ref h_c), (1, .int x1), (2, .int x2), (3, .int x3), (4, .int x4), (5, .int x5)] → W p l e rm_C_tryAllTapes s m args below meth c H locs 0 0 Q (F0 m 19 ls []) := by
    clear hw hP hD hS hl
    intro x6 n_19
    induction n_19 with
    | zero => exact fun _ _ _ _ _ _ _ _ _ h => h.elim
    | succ n_19 ih_19 =>
      intro vr t_size t_at vb y_hits y_runOuts y_bitsRead y_fewestBits x8 hw H locs ls hP hD hS hl
      have hw : wpF_C_tryAllTapes_19 post Nb c_latestSpent vw x1 x2 x3 x4 x5 x6 (gL9 (wpF_C_tryAllTapes_19 post Nb c_latestSpent vw x1 x2 x3 x4 x5 x6) n_19) vr t_size t_at vb y_hits y_runOuts y_bitsRead y_fewestBits x8 := hw
      rw [wpF_C_tryAllTapes_19] at hw
      refine lv_iload hx hb d_C_tryAllTapes_19 (lv_at hl 0 rfl) ?_
      refine lv_iload hx hb d_C_tryAllTapes_21 (lv_at hl 1 rfl) ?_
      refine lv_icmp_ge (tgt := 106) hx hb d_C_tryAllTapes_23 (by decide) (fun c23 => ?_) (fun c23 => ?_)
      · have hw := hw.1 c23
        exact hret _ _ (vr, t_size, t_at, vb, y_hits, y_runOuts, y_bitsRead, y_fewestBits) _ _ hw hP hD hS d_C_tryAllTapes_106
      · have hw := hw.2 c23
        refine lv_aload_n hx hb d_C_tryAllTapes_26 rfl (lv_at hl 2 rfl) ?_
        refine gGet fx hK hP 0 rfl inC rfl (k := 3) (by decide) w_58 rfl d_C_tryAllTapes_27 ?_
        refine g_cVv (wr := [(h_c, .inr (2, [.ref h_w, .ref h_r, .ref c_tape, .ref h_t, .ref h_y, .int c_latestSpent])), (h_w, .inl (cI, 8, .inl vw)), (h_r, .inl (cI, 4, .inl vr)), (h_b, .inl (cI, Nb, .inl vb)), (h_y, .inr (0, [.int y_hits, .int y_runOuts, .int y_bitsRead, .int y_fewestBits]))]) fx (c_T_clear l D cI h_t h_b t_size t_at _ hw) mf_T_clear w_195 ⟨rfl, rfl⟩ ⟨Nat.le_of_ble_eq_true rfl, Nat.le_of_ble_eq_true rfl⟩ hN hK hA hP hD hS [3] [0, 1, 2, 4, 5] rfl rfl rfl rfl (by decide) 0 rfl rfl rfl rfl hl.1 (Nat.le_of_ble_eq_true rfl) d_C_tryAllTapes_30 ⟨Nat.zero_le _, Nat.zero_le _⟩ (fun u H locs hw hP hD hS => ?_)
        obtain ⟨tsize_5, tat_6⟩ := u
        try dsimp only at hw
        have hP : va_P D gCl [(h_c, .inr (2, [.ref h_w, .ref h_r, .ref c_tape, .ref h_t, .ref h_y, .int c_latestSpent])), (h_w, .inl (cI, 8, .inl vw)), (h_r, .inl (cI, 4, .inl vr)), (h_b, .inl (cI, Nb, .inl vb)), (h_y, .inr (0, [.int y_hits, .int y_runOuts, .int y_bitsRead, .int y_fewestBits])), (h_t, .inr (1, [.ref h_b, .int tsize_5, .int tat_6]))] H := hP
        have hD : va_D A [(h_c, .inr (2, [.ref h_w, .ref h_r, .ref c_tape, .ref h_t, .ref h_y, .int c_latestSpent])), (h_w, .inl (cI, 8, .inl vw)), (h_r, .inl (cI, 4, .inl vr)), (h_b, .inl (cI, Nb, .inl vb)), (h_y, .inr (0, [.int y_hits, .int y_runOuts, .int y_bitsRead, .int y_fewestBits])), (h_t, .inr (1, [.ref h_b, .int tsize_5, .int tat_6]))] := hD
        refine lv_aload_n hx hb d_C_tryAllTapes_33 rfl (lv_at hl 2 rfl) ?_
        refine gGet fx hK hP 0 rfl inC rfl (k := 3) (by decide) w_58 rfl d_C_tryAllTapes_34 ?_
        refine lv_iload hx hb d_C_tryAllTapes_37 (lv_at hl 0 rfl) ?_
        refine lv_iload hx hb d_C_tryAllTapes_39 (lv_at hl 6 rfl) ?_
        refine g_cVi (wr := [(h_c, .inr (2, [.ref h_w, .ref h_r, .ref c_tape, .ref h_t, .ref h_y, .int c_latestSpent])), (h_w, .inl (cI, 8, .inl vw)), (h_r, .inl (cI, 4, .inl vr)), (h_y, .inr (0, [.int y_hits, .int y_runOuts, .int y_bitsRead, .int y_fewestBits]))]) fx (c_T_append l D cI h_t h_b Nb tsize_5 tat_6 vb x8 x4 _ hw) mf_T_append w_89 ⟨rfl, rfl⟩ ⟨Nat.le_of_ble_eq_true rfl, Nat.le_of_ble_eq_true rfl⟩ hN hK hA hP hD hS [5, 3] [0, 1, 2, 4] rfl rfl rfl rfl (by decide) 0 rfl rfl rfl rfl hl.1 (Nat.le_of_ble_eq_true rfl) d_C_tryAllTapes_41 ⟨Nat.zero_le _, Nat.zero_le _⟩ (fun r_7 u H locs hw hP hD hS => ?_)
        obtain ⟨tsize_8, vb_9⟩ := u
        try dsimp only at hw
        have hP : va_P D gCl [(h_c, .inr (2, [.ref h_w, .ref h_r, .ref c_tape, .ref h_t, .ref h_y, .int c_latestSpent])), (h_w, .inl (cI, 8, .inl vw)), (h_r, .inl (cI, 4, .inl vr)), (h_y, .inr (0, [.int y_hits, .int y_runOuts, .int y_bitsRead, .int y_fewestBits])), (h_t, .inr (1, [.ref h_b, .int tsize_8, .int tat_6])), (h_b, .inl (cI, Nb, .inl vb_9))] H := hP
        have hD : va_D A [(h_c, .inr (2, [.ref h_w, .ref h_r, .ref c_tape, .ref h_t, .ref h_y, .int c_latestSpent])), (h_w, .inl (cI, 8, .inl vw)), (h_r, .inl (cI, 4, .inl vr)), (h_y, .inr (0, [.int y_hits, .int y_runOuts, .int y_bitsRead, .int y_fewestBits])), (h_t, .inr (1, [.ref h_b, .int tsize_8, .int tat_6])), (h_b, .inl (cI, Nb, .inl vb_9))] := hD
        refine lv_pop hx hb d_C_tryAllTapes_44 rfl ?_
        refine lv_aload_n hx hb d_C_tryAllTapes_45 rfl (lv_at hl 2 rfl) ?_
        refine lv_aload_n hx hb d_C_tryAllTapes_46 rfl (lv_at hl 2 rfl) ?_
        refine gGet fx hK hP 0 rfl inC rfl (k := 3) (by decide) w_58 rfl d_C_tryAllTapes_47 ?_
        refine lv_iload_n hx hb d_C_tryAllTapes_50 rfl (lv_at hl 3 rfl) ?_
        refine lv_iload_n hx hb d_C_tryAllTapes_51 rfl (lv_at hl 4 rfl) ?_
        refine lv_iload_n hx hb d_C_tryAllTapes_52 rfl (lv_at hl 5 rfl) ?_
        refine g_cVi (wr := [(h_y, .inr (0, [.int y_hits, .int y_runOuts, .int y_bitsRead, .int y_fewestBits]))]) fx (c_C_sample l D cI h_c h_w h_r h_t h_b c_tape h_t h_y Nb c_latestSpent vw vr tsize_8 tat_6 vb_9 x1 x2 x3 _ hw) mf_C_sample w_118 ⟨rfl, rfl⟩ ⟨Nat.le_of_ble_eq_true rfl, Nat.le_of_ble_eq_true rfl⟩ hN hK hA hP hD hS [0, 1, 2, 4, 5] [3] rfl rfl rfl rfl (by decide) 0 rfl rfl rfl rfl hl.1 (Nat.le_of_ble_eq_true rfl) d_C_tryAllTapes_53 ⟨Nat.zero_le _, Nat.zero_le _⟩ (fun r_10 u H locs hw hP hD hS => ?_)
        obtain ⟨vr_11, tat_12⟩ := u
        try dsimp only at hw
        have hP : va_P D gCl [(h_y, .inr (0, [.int y_hits, .int y_runOuts, .int y_bitsRead, .int y_fewestBits])), (h_c, .inr (2, [.ref h_w, .ref h_r, .ref c_tape, .ref h_t, .ref h_y, .int c_latestSpent])), (h_w, .inl (cI, 8, .inl vw)), (h_r, .inl (cI, 4, .inl vr_11)), (h_t, .inr (1, [.ref h_b, .int tsize_8, .int tat_12])), (h_b, .inl (cI, Nb, .inl vb_9))] H := hP
        have hD : va_D A [(h_y, .inr (0, [.int y_hits, .int y_runOuts, .int y_bitsRead, .int y_fewestBits])), (h_c, .inr (2, [.ref h_w, .ref h_r, .ref c_tape, .ref h_t, .ref h_y, .int c_latestSpent])), (h_w, .inl (cI, 8, .inl vw)), (h_r, .inl (cI, 4, .inl vr_11)), (h_t, .inr (1, [.ref h_b, .int tsize_8, .int tat_12])), (h_b, .inl (cI, Nb, .inl vb_9))] := hD
        refine lv_istore (lv' := [(9, .int r_10), (8, .int x8), (6, .int x6), (0, .ref h_c), (1, .int x1), (2, .int x2), (3, .int x3), (4, .int x4), (5, .int x5)]) hx hb d_C_tryAllTapes_56 hl (by decide) rfl (fun ls hl => ?_)
        refine lv_iconst (v := (nI 1)) hx hb d_C_tryAllTapes_58 (by decide) ?_
        refine lv_iload hx hb d_C_tryAllTapes_59 (lv_at hl 7 rfl) ?_
        refine lv_aload_n hx hb d_C_tryAllTapes_61 rfl (lv_at hl 3 rfl) ?_
        refine gGet fx hK hP 1 rfl inC rfl (k := 3) (by decide) w_58 rfl d_C_tryAllTapes_62 ?_
        refine g_cVi (wr := [(h_y, .inr (0, [.int y_hits, .int y_runOuts, .int y_bitsRead, .int y_fewestBits])), (h_c, .inr (2, [.ref h_w, .ref h_r, .ref c_tape, .ref h_t, .ref h_y, .int c_latestSpent])), (h_w, .inl (cI, 8, .inl vw)), (h_r, .inl (cI, 4, .inl vr_11)), (h_b, .inl (cI, Nb, .inl vb_9))]) fx (c_T_readSoFar l D cI h_t h_b tsize_8 tat_12 _ hw) mf_T_readSoFar w_164 ⟨rfl, rfl⟩ ⟨Nat.le_of_ble_eq_true rfl, Nat.le_of_ble_eq_true rfl⟩ hN hK hA hP hD hS [4] [0, 1, 2, 3, 5] rfl rfl rfl rfl (by decide) 0 rfl rfl rfl rfl hl.1 (Nat.le_of_ble_eq_true rfl) d_C_tryAllTapes_65 ⟨Nat.zero_le _, Nat.zero_le _⟩ (fun r_13 u H locs hw hP hD hS => ?_)
        try dsimp only at hw
        have hP : va_P D gCl [(h_y, .inr (0, [.int y_hits, .int y_runOuts, .int y_bitsRead, .int y_fewestBits])), (h_c, .inr (2, [.ref h_w, .ref h_r, .ref c_tape, .ref h_t, .ref h_y, .int c_latestSpent])), (h_w, .inl (cI, 8, .inl vw)), (h_r, .inl (cI, 4, .inl vr_11)), (h_b, .inl (cI, Nb, .inl vb_9)), (h_t, .inr (1, [.ref h_b, .int tsize_8, .int tat_12]))] H := hP
        have hD : va_D A [(h_y, .inr (0, [.int y_hits, .int y_runOuts, .int y_bitsRead, .int y_fewestBits])), (h_c, .inr (2, [.ref h_w, .ref h_r, .ref c_tape, .ref h_t, .ref h_y, .int c_latestSpent])), (h_w, .inl (cI, 8, .inl vw)), (h_r, .inl (cI, 4, .inl vr_11)), (h_b, .inl (cI, Nb, .inl vb_9)), (h_t, .inr (1, [.ref h_b, .int tsize_8, .int tat_12]))] := hD
        refine lv_isub hx hb d_C_tryAllTapes_68 ?_
        refine lv_ishl hx hb d_C_tryAllTapes_69 ?_
        refine lv_istore (lv' := [(7, .int ((nI 1) <<< ((x4 - r_13) &&& 31))), (9, .int r_10), (8, .int x8), (6, .int x6), (0, .ref h_c), (1, .int x1), (2, .int x2), (3, .int x3), (4, .int x4), (5, .int x5)]) hx hb d_C_tryAllTapes_70 hl (by decide) rfl (fun ls hl => ?_)
        refine lv_aload_n hx hb d_C_tryAllTapes_72 rfl (lv_at hl 4 rfl) ?_
        refine gGet fx hK hP 1 rfl inC rfl (k := 4) (by decide) w_59 rfl d_C_tryAllTapes_73 ?_
        refine lv_iload hx hb d_C_tryAllTapes_76 (lv_at hl 1 rfl) ?_
        refine lv_iload hx hb d_C_tryAllTapes_78 (lv_at hl 9 rfl) ?_
        refine lv_aload_n hx hb d_C_tryAllTapes_80 rfl (lv_at hl 4 rfl) ?_
        refine gGet fx hK hP 1 rfl inC rfl (k := 3) (by decide) w_58 rfl d_C_tryAllTapes_81 ?_
        refine g_cVi (wr := [(h_y, .inr (0, [.int y_hits, .int y_runOuts, .int y_bitsRead, .int y_fewestBits])), (h_c, .inr (2, [.ref h_w, .ref h_r, .ref c_tape, .ref h_t, .ref h_y, .int c_latestSpent])), (h_w, .inl (cI, 8, .inl vw)), (h_r, .inl (cI, 4, .inl vr_11)), (h_b, .inl (cI, Nb, .inl vb_9))]) fx (c_T_readSoFar l D cI h_t h_b tsize_8 tat_12 _ hw) mf_T_readSoFar w_164 ⟨rfl, rfl⟩ ⟨Nat.le_of_ble_eq_true rfl, Nat.le_of_ble_eq_true rfl⟩ hN hK hA hP hD hS [5] [0, 1, 2, 3, 4] rfl rfl rfl rfl (by decide) 0 rfl rfl rfl rfl hl.1 (Nat.le_of_ble_eq_true rfl) d_C_tryAllTapes_84 ⟨Nat.zero_le _, Nat.zero_le _⟩ (fun r_14 u H locs hw hP hD hS => ?_)
        try dsimp only at hw
        have hP : va_P D gCl [(h_y, .inr (0, [.int y_hits, .int y_runOuts, .int y_bitsRead, .int y_fewestBits])), (h_c, .inr (2, [.ref h_w, .ref h_r, .ref c_tape, .ref h_t, .ref h_y, .int c_latestSpent])), (h_w, .inl (cI, 8, .inl vw)), (h_r, .inl (cI, 4, .inl vr_11)), (h_b, .inl (cI, Nb, .inl vb_9)), (h_t, .inr (1, [.ref h_b, .int tsize_8, .int tat_12]))] H := hP
        have hD : va_D A [(h_y, .inr (0, [.int y_hits, .int y_runOuts, .int y_bitsRead, .int y_fewestBits])), (h_c, .inr (2, [.ref h_w, .ref h_r, .ref c_tape, .ref h_t, .ref h_y, .int c_latestSpent])), (h_w, .inl (cI, 8, .inl vw)), (h_r, .inl (cI, 4, .inl vr_11)), (h_b, .inl (cI, Nb, .inl vb_9)), (h_t, .inr (1, [.ref h_b, .int tsize_8, .int tat_12]))] := hD
        refine lv_iload hx hb d_C_tryAllTapes_87 (lv_at hl 0 rfl) ?_
        refine g_cVv (wr := [(h_c, .inr (2, [.ref h_w, .ref h_r, .ref c_tape, .ref h_t, .ref h_y, .int c_latestSpent])), (h_w, .inl (cI, 8, .inl vw)), (h_r, .inl (cI, 4, .inl vr_11)), (h_b, .inl (cI, Nb, .inl vb_9)), (h_t, .inr (1, [.ref h_b, .int tsize_8, .int tat_12]))]) fx (c_Y_add l D cI h_y y_hits y_runOuts y_bitsRead y_fewestBits r_10 x5 r_14 ((nI 1) <<< ((x4 - r_13) &&& 31)) _ hw) mf_Y_add w_199 ⟨rfl, rfl⟩ ⟨Nat.le_of_ble_eq_true rfl, Nat.le_of_ble_eq_true rfl⟩ hN hK hA hP hD hS [0] [1, 2, 3, 4, 5] rfl rfl rfl rfl (by decide) 0 rfl rfl rfl rfl hl.1 (Nat.le_of_ble_eq_true rfl) d_C_tryAllTapes_89 ⟨Nat.zero_le _, Nat.zero_le _⟩ (fun u H locs hw hP hD hS => ?_)
        obtain ⟨yhits_15, yrunOuts_16, ybitsRead_17, yfewestBits_18⟩ := u
        try dsimp only at hw
        have hP : va_P D gCl [(h_c, .inr (2, [.ref h_w, .ref h_r, .ref c_tape, .ref h_t, .ref h_y, .int c_latestSpent])), (h_w, .inl (cI, 8, .inl vw)), (h_r, .inl (cI, 4, .inl vr_11)), (h_b, .inl (cI, Nb, .inl vb_9)), (h_t, .inr (1, [.ref h_b, .int tsize_8, .int tat_12])), (h_y, .inr (0, [.int yhits_15, .int yrunOuts_16, .int ybitsRead_17, .int yfewestBits_18]))] H := hP
        have hD : va_D A [(h_c, .inr (2, [.ref h_w, .ref h_r, .ref c_tape, .ref h_t, .ref h_y, .int c_latestSpent])), (h_w, .inl (cI, 8, .inl vw)), (h_r, .inl (cI, 4, .inl vr_11)), (h_b, .inl (cI, Nb, .inl vb_9)), (h_t, .inr (1, [.ref h_b, .int tsize_8, .int tat_12])), (h_y, .inr (0, [.int yhits_15, .int yrunOuts_16, .int ybitsRead_17, .int yfewestBits_18]))] := hD
        refine lv_iload hx hb d_C_tryAllTapes_92 (lv_at hl 2 rfl) ?_
        refine lv_iconst (v := (nI 1)) hx hb d_C_tryAllTapes_94 (by decide) ?_
        refine lv_iload hx hb d_C_tryAllTapes_95 (lv_at hl 0 rfl) ?_
        refine va_mmax hx hb (hml.trans hl.1.symm) hown (hts _ w_206) (hts _ w_207) (hts _ w_6) (hts _ w_208) (by decide) (Nat.le_of_ble_eq_true rfl) (Nat.zero_le _) (Nat.zero_le _) d_C_tryAllTapes_97 ?_
        refine lv_iadd hx hb d_C_tryAllTapes_100 ?_
        refine lv_istore (lv' := [(8, .int (x8 + (if (nI 1) < ((nI 1) <<< ((x4 - r_13) &&& 31)) then ((nI 1) <<< ((x4 - r_13) &&& 31)) else (nI 1)))), (7, .int ((nI 1) <<< ((x4 - r_13) &&& 31))), (9, .int r_10), (6, .int x6), (0, .ref h_c), (1, .int x1), (2, .int x2), (3, .int x3), (4, .int x4), (5, .int x5)]) hx hb d_C_tryAllTapes_101 hl (by decide) rfl (fun ls hl => ?_)
        refine lv_goto (tgt := 19) hx hb d_C_tryAllTapes_103 (by decide) ?_
        exact ih_19 _ _ _ _ _ _ _ _ _ hw _ _ _ (gSubP hP [0, 1, 2, 4, 3, 5] rfl) (hD.sub [0, 1, 2, 4, 3, 5] rfl rfl) hS (lv_sub hl [0, 3, 4, 5, 6, 7, 8, 9] rfl)
  exact k_19 ((nI 1) <<< (x4 &&& 31)) n_19 _ _ _ _ _ _ _ _ _ hw _ _ _ hP hD hS (lv_sub hl [0, 2, 3, 4, 5, 6, 7, 8] rfl)
def wp_C_count (post : Int32 → (Nat → Int32) → Int32 → Int32 → (Nat → Int32) → Int32 → Int32 → Int32 → Int32 → Prop) (Nb : Nat) (c_latestSpent : Int32) (vw : Nat → Int32) (vr : Nat → Int32) (t_size : Int32) (t_at : Int32) (vb : Nat → Int32) (y_hits : Int32) (y_runOuts : Int32) (y_bitsRead : Int32) (y_fewestBits : Int32) (x1 : Int32) (x2 : Int32) (x3 : Int32) (x4 : Int32) (x5 : Int32) : Prop :=
  wp_C_isCountable (fun r_1 => ((¬ r_1 = 0 → wp_C_tryAllTapes (fun vr_2 tsize_3 tat_4 vb_5 yhits_6 yrunOuts_7 ybitsRead_8 yfewestBits_9 => post yhits_6 vr_2 tsize_3 tat_4 vb_5 yhits_6 yrunOuts_7 ybitsRead_8 yfewestBits_9) Nb c_latestSpent vw vr t_size t_at vb y_hits y_runOuts y_bitsRead y_fewestBits x1 x2 x3 x4 x5) ∧ (r_1 = 0 → post (-1) vr t_size t_at vb y_hits y_runOuts y_bitsRead y_fewestBits))) c_latestSpent vw x1 x2 x3 x4
abbrev rm_C_count : Room := { frames := 6, cells := 0, slots := 0, locals := 147 }
theorem mf_C_count : gFV y_C_count b_C_count 6 (some .int) 5 := ⟨w_182, w_1, ⟨by decide, by decide, by decide +kernel⟩, w_180, w_181⟩
set_option maxHeartbeats 4000000 in
set_option maxRecDepth 100000 in
theorem c_C_count (l : Launch) (D : va_G) (cI : ClassId) (h_c : Nat) (h_w : Nat) (h_r : Nat) (h_t : Nat) (h_b : Nat) (h_y : Nat) (c_tape : Nat) (Nb : Nat) (c_latestSpent : Int32) (vw : Nat → Int32) (vr : Nat → Int32) (t_size : Int32) (t_at : Int32) (vb : Nat → Int32) (y_hits : Int32) (y_runOuts : Int32) (y_bitsRead : Int32) (y_fewestBits : Int32) (x1 : Int32) (x2 : Int32) (x3 : Int32) (x4 : Int32) (x5 : Int32) (post : Int32 → (Nat → Int32) → Int32 → Int32 → (Nat → Int32) → Int32 → Int32 → Int32 → Int32 → Prop) (hw : wp_C_count post Nb c_latestSpent vw vr t_size t_at vb y_hits y_runOuts y_bitsRead y_fewestBits x1 x2 x3 x4 x5) :
    gMi l D [(cI, .int)] y_C_count b_C_count 6 .int rm_C_count [.ref h_c, .int x1, .int x2, .int x3, .int x4, .int x5] [(h_c, .inr (2, [.ref h_w, .ref h_r, .ref c_tape, .ref h_t, .ref h_y, .int c_latestSpent])), (h_w, .inl (cI, 8, .inl vw)), (h_r, .inl (cI, 4, .inl vr)), (h_t, .inr (1, [.ref h_b, .int t_size, .int t_at])), (h_b, .inl (cI, Nb, .inl vb)), (h_y, .inr (0, [.int y_hits, .int y_runOuts, .int y_bitsRead, .int y_fewestBits]))] (S := (Nat → Int32) × Int32 × Int32 × (Nat → Int32) × Int32 × Int32 × Int32 × Int32) (fun u => [(h_c, .inr (2, [.ref h_w, .ref h_r, .ref c_tape, .ref h_t, .ref h_y, .int c_latestSpent])), (h_w, .inl (cI, 8, .inl vw)), (h_r, .inl (cI, 4, .inl u.1)), (h_t, .inr (1, [.ref h_b, .int u.2.1, .int u.2.2.1])), (h_b, .inl (cI, Nb, .inl u.2.2.2.1)), (h_y, .inr (0, [.int u.2.2.2.2.1, .int u.2.2.2.2.2.1, .int u.2.2.2.2.2.2.1, .int u.2.2.2.2.2.2.2]))]) (fun r u => post r u.1 u.2.1 u.2.2.1 u.2.2.2.1 u.2.2.2.2.1 u.2.2.2.2.2.1 u.2.2.2.2.2.2.1 u.2.2.2.2.2.2.2) := by
  rw [wp_C_count] at hw
  refine gMi.of (by decide) (Nat.le_of_ble_eq_true rfl) (fun p e s m args below meth c A Q ls hx hb hml hown hts hN hK hA hP hD hret hl => ?_)
  have fx : CallFix p m c b_C_count 6 s args gG "TapeCounter" := ⟨hx, hb, hml, hown, hts⟩
  have hl : lv_has ls 6 [(0, .ref h_c), (1, .int x1), (2, .int x2), (3, .int x3), (4, .int x4), (5, .int x5)] := hl
  have hS : va_S A s.heap s.heap [] := va_S.rf
  refine lv_aload_n hx hb d_C_count_0 rfl (lv_at hl 0 rfl) ?_
  refine lv_iload_n hx hb d_C_count_1 rfl (lv_at hl 1 rfl) ?_
  refine lv_iload_n hx hb d_C_count_2 rfl (lv_at hl 2 rfl) ?_
  refine lv_iload_n hx hb d_C_count_3 rfl (lv_at hl 3 rfl) ?_
  refine lv_iload hx hb d_C_count_4 (lv_at hl 4 rfl) ?_
  refine g_cVi (wr := [(h_r, .inl (cI, 4, .inl vr)), (h_t, .inr (1, [.ref h_b, .int t_size, .int t_at])), (h_b, .inl (cI, Nb, .inl vb)), (h_y, .inr (0, [.int y_hits, .int y_runOuts, .int y_bitsRead, .int y_fewestBits]))]) fx (c_C_isCountable l D cI h_c h_w h_r c_tape h_t h_y c_latestSpent vw x1 x2 x3 x4 _ hw) mf_C_isCountable w_183 ⟨rfl, rfl⟩ ⟨Nat.le_of_ble_eq_true rfl, Nat.le_of_ble_eq_true rfl⟩ hN hK hA hP hD hS [0, 1] [2, 3, 4, 5] rfl rfl rfl rfl (by decide) 0 rfl rfl rfl rfl hl.1 (Nat.le_of_ble_eq_true rfl) d_C_count_6 ⟨Nat.zero_le _, Nat.zero_le _⟩ (fun r_1 u H locs hw hP hD hS => ?_)
  try dsimp only at hw
  have hP : va_P D gCl [(h_r, .inl (cI, 4, .inl vr)), (h_t, .inr (1, [.ref h_b, .int t_size, .int t_at])), (h_b, .inl (cI, Nb, .inl vb)), (h_y, .inr (0, [.int y_hits, .int y_runOuts, .int y_bitsRead, .int y_fewestBits])), (h_c, .inr (2, [.ref h_w, .ref h_r, .ref c_tape, .ref h_t, .ref h_y, .int c_latestSpent])), (h_w, .inl (cI, 8, .inl vw))] H := hP
  have hD : va_D A [(h_r, .inl (cI, 4, .inl vr)), (h_t, .inr (1, [.ref h_b, .int t_size, .int t_at])), (h_b, .inl (cI, Nb, .inl vb)), (h_y, .inr (0, [.int y_hits, .int y_runOuts, .int y_bitsRead, .int y_fewestBits])), (h_c, .inr (2, [.ref h_w, .ref h_r, .ref c_tape, .ref h_t, .ref h_y, .int c_latestSpent])), (h_w, .inl (cI, 8, .inl vw))] := hD
  refine lv_if_ne (tgt := 14) hx hb d_C_count_9 (by decide) (fun c9 => ?_) (fun c9 => ?_)
  · have hw := hw.1 c9
    refine lv_aload_n hx hb d_C_count_14 rfl (lv_at hl 0 rfl) ?_
    refine lv_iload_n hx hb d_C_count_15 rfl (lv_at hl 1 rfl) ?_
    refine lv_iload_n hx hb d_C_count_16 rfl (lv_at hl 2 rfl) ?_
    refine lv_iload_n hx hb d_C_count_17 rfl (lv_at hl 3 rfl) ?_
    refine lv_iload hx hb d_C_count_18 (lv_at hl 4 rfl) ?_
    refine lv_iload hx hb d_C_count_20 (lv_at hl 5 rfl) ?_
    refine g_cVv (wr := []) fx (c_C_tryAllTapes l D cI h_c h_w h_r h_t h_b h_y c_tape Nb c_latestSpent vw vr t_size t_at vb y_hits y_runOuts y_bitsRead y_fewestBits x1 x2 x3 x4 x5 _ hw) mf_C_tryAllTapes w_187 ⟨rfl, rfl⟩ ⟨Nat.le_of_ble_eq_true rfl, Nat.le_of_ble_eq_true rfl⟩ hN hK hA hP hD hS [4, 5, 0, 1, 2, 3] [] rfl rfl rfl rfl (by decide) 0 rfl rfl rfl rfl hl.1 (Nat.le_of_ble_eq_true rfl) d_C_count_22 ⟨Nat.zero_le _, Nat.zero_le _⟩ (fun u H locs hw hP hD hS => ?_)
    obtain ⟨vr_2, tsize_3, tat_4, vb_5, yhits_6, yrunOuts_7, ybitsRead_8, yfewestBits_9⟩ := u
    try dsimp only at hw
    have hP : va_P D gCl [(h_c, .inr (2, [.ref h_w, .ref h_r, .ref c_tape, .ref h_t, .ref h_y, .int c_latestSpent])), (h_w, .inl (cI, 8, .inl vw)), (h_r, .inl (cI, 4, .inl vr_2)), (h_t, .inr (1, [.ref h_b, .int tsize_3, .int tat_4])), (h_b, .inl (cI, Nb, .inl vb_5)), (h_y, .inr (0, [.int yhits_6, .int yrunOuts_7, .int ybitsRead_8, .int yfewestBits_9]))] H := hP
    have hD : va_D A [(h_c, .inr (2, [.ref h_w, .ref h_r, .ref c_tape, .ref h_t, .ref h_y, .int c_latestSpent])), (h_w, .inl (cI, 8, .inl vw)), (h_r, .inl (cI, 4, .inl vr_2)), (h_t, .inr (1, [.ref h_b, .int tsize_3, .int tat_4])), (h_b, .inl (cI, Nb, .inl vb_5)), (h_y, .inr (0, [.int yhits_6, .int yrunOuts_7, .int ybitsRead_8, .int yfewestBits_9]))] := hD
    refine lv_aload_n hx hb d_C_count_25 rfl (lv_at hl 0 rfl) ?_
    refine gGet fx hK hP 0 rfl inC rfl (k := 4) (by decide) w_59 rfl d_C_count_26 ?_
    refine gGetN fx hN hK hP 5 rfl inY rfl (k := 0) (by decide) gN_1 rfl d_C_count_29 ?_
    exact hret _ _ _ (vr_2, tsize_3, tat_4, vb_5, yhits_6, yrunOuts_7, ybitsRead_8, yfewestBits_9) _ _ hw rfl hP hD hS d_C_count_32
  · have hw := hw.2 c9
    refine lv_iconst (v := (-1)) hx hb d_C_count_12 (by decide) ?_
    exact hret _ _ _ (vr, t_size, t_at, vb, y_hits, y_runOuts, y_bitsRead, y_fewestBits) _ _ hw rfl (gSubP hP [4, 5, 0, 1, 2, 3] rfl) (hD.sub [4, 5, 0, 1, 2, 3] rfl rfl) hS d_C_count_13
def wp_C_fails (post : Int32 → (Nat → Int32) → Int32 → Int32 → (Nat → Int32) → Int32 → Int32 → Int32 → Int32 → Prop) (Nb : Nat) (c_latestSpent : Int32) (vw : Nat → Int32) (vr : Nat → Int32) (t_size : Int32) (t_at : Int32) (vb : Nat → Int32) (y_hits : Int32) (y_runOuts : Int32) (y_bitsRead : Int32) (y_fewestBits : Int32) (x1 : Int32) (x2 : Int32) (x3 : Int32) (x4 : Int32) : Prop :=
  wp_C_isCountable (fun r_1 => ((¬ r_1 = 0 → wp_C_tryAllTapes (fun vr_2 tsize_3 tat_4 vb_5 yhits_6 yrunOuts_7 ybitsRead_8 yfewestBits_9 => post yrunOuts_7 vr_2 tsize_3 tat_4 vb_5 yhits_6 yrunOuts_7 ybitsRead_8 yfewestBits_9) Nb c_latestSpent vw vr t_size t_at vb y_hits y_runOuts y_bitsRead y_fewestBits x1 x2 x3 x4 (-1)) ∧ (r_1 = 0 → post (-1) vr t_size t_at vb y_hits y_runOuts y_bitsRead y_fewestBits))) c_latestSpent vw x1 x2 x3 x4
abbrev rm_C_fails : Room := { frames := 6, cells := 0, slots := 0, locals := 147 }
theorem mf_C_fails : gFV y_C_fails b_C_fails 5 (some .int) 4 := ⟨w_212, w_1, ⟨by decide, by decide, by decide +kernel⟩, w_210, w_211⟩
set_option maxHeartbeats 4000000 in
set_option maxRecDepth 100000 in
theorem c_C_fails (l : Launch) (D : va_G) (cI : ClassId) (h_c : Nat) (h_w : Nat) (h_r : Nat) (h_t : Nat) (h_b : Nat) (h_y : Nat) (c_tape : Nat) (Nb : Nat) (c_latestSpent : Int32) (vw : Nat → Int32) (vr : Nat → Int32) (t_size : Int32) (t_at : Int32) (vb : Nat → Int32) (y_hits : Int32) (y_runOuts : Int32) (y_bitsRead : Int32) (y_fewestBits : Int32) (x1 : Int32) (x2 : Int32) (x3 : Int32) (x4 : Int32) (post : Int32 → (Nat → Int32) → Int32 → Int32 → (Nat → Int32) → Int32 → Int32 → Int32 → Int32 → Prop) (hw : wp_C_fails post Nb c_latestSpent vw vr t_size t_at vb y_hits y_runOuts y_bitsRead y_fewestBits x1 x2 x3 x4) :
    gMi l D [(cI, .int)] y_C_fails b_C_fails 5 .int rm_C_fails [.ref h_c, .int x1, .int x2, .int x3, .int x4] [(h_c, .inr (2, [.ref h_w, .ref h_r, .ref c_tape, .ref h_t, .ref h_y, .int c_latestSpent])), (h_w, .inl (cI, 8, .inl vw)), (h_r, .inl (cI, 4, .inl vr)), (h_t, .inr (1, [.ref h_b, .int t_size, .int t_at])), (h_b, .inl (cI, Nb, .inl vb)), (h_y, .inr (0, [.int y_hits, .int y_runOuts, .int y_bitsRead, .int y_fewestBits]))] (S := (Nat → Int32) × Int32 × Int32 × (Nat → Int32) × Int32 × Int32 × Int32 × Int32) (fun u => [(h_c, .inr (2, [.ref h_w, .ref h_r, .ref c_tape, .ref h_t, .ref h_y, .int c_latestSpent])), (h_w, .inl (cI, 8, .inl vw)), (h_r, .inl (cI, 4, .inl u.1)), (h_t, .inr (1, [.ref h_b, .int u.2.1, .int u.2.2.1])), (h_b, .inl (cI, Nb, .inl u.2.2.2.1)), (h_y, .inr (0, [.int u.2.2.2.2.1, .int u.2.2.2.2.2.1, .int u.2.2.2.2.2.2.1, .int u.2.2.2.2.2.2.2]))]) (fun r u => post r u.1 u.2.1 u.2.2.1 u.2.2.2.1 u.2.2.2.2.1 u.2.2.2.2.2.1 u.2.2.2.2.2.2.1 u.2.2.2.2.2.2.2) := by
  rw [wp_C_fails] at hw
  refine gMi.of (by decide) (Nat.le_of_ble_eq_true rfl) (fun p e s m args below meth c A Q ls hx hb hml hown hts hN hK hA hP hD hret hl => ?_)
  have fx : CallFix p m c b_C_fails 5 s args gG "TapeCounter" := ⟨hx, hb, hml, hown, hts⟩
  have hl : lv_has ls 5 [(0, .ref h_c), (1, .int x1), (2, .int x2), (3, .int x3), (4, .int x4)] := hl
  have hS : va_S A s.heap s.heap [] := va_S.rf
  refine lv_aload_n hx hb d_C_fails_0 rfl (lv_at hl 0 rfl) ?_
  refine lv_iload_n hx hb d_C_fails_1 rfl (lv_at hl 1 rfl) ?_
  refine lv_iload_n hx hb d_C_fails_2 rfl (lv_at hl 2 rfl) ?_
  refine lv_iload_n hx hb d_C_fails_3 rfl (lv_at hl 3 rfl) ?_
  refine lv_iload hx hb d_C_fails_4 (lv_at hl 4 rfl) ?_
  refine g_cVi (wr := [(h_r, .inl (cI, 4, .inl vr)), (h_t, .inr (1, [.ref h_b, .int t_size, .int t_at])), (h_b, .inl (cI, Nb, .inl vb)), (h_y, .inr (0, [.int y_hits, .int y_runOuts, .int y_bitsRead, .int y_fewestBits]))]) fx (c_C_isCountable l D cI h_c h_w h_r c_tape h_t h_y c_latestSpent vw x1 x2 x3 x4 _ hw) mf_C_isCountable w_183 ⟨rfl, rfl⟩ ⟨Nat.le_of_ble_eq_true rfl, Nat.le_of_ble_eq_true rfl⟩ hN hK hA hP hD hS [0, 1] [2, 3, 4, 5] rfl rfl rfl rfl (by decide) 0 rfl rfl rfl rfl hl.1 (Nat.le_of_ble_eq_true rfl) d_C_fails_6 ⟨Nat.zero_le _, Nat.zero_le _⟩ (fun r_1 u H locs hw hP hD hS => ?_)
  try dsimp only at hw
  have hP : va_P D gCl [(h_r, .inl (cI, 4, .inl vr)), (h_t, .inr (1, [.ref h_b, .int t_size, .int t_at])), (h_b, .inl (cI, Nb, .inl vb)), (h_y, .inr (0, [.int y_hits, .int y_runOuts, .int y_bitsRead, .int y_fewestBits])), (h_c, .inr (2, [.ref h_w, .ref h_r, .ref c_tape, .ref h_t, .ref h_y, .int c_latestSpent])), (h_w, .inl (cI, 8, .inl vw))] H := hP
  have hD : va_D A [(h_r, .inl (cI, 4, .inl vr)), (h_t, .inr (1, [.ref h_b, .int t_size, .int t_at])), (h_b, .inl (cI, Nb, .inl vb)), (h_y, .inr (0, [.int y_hits, .int y_runOuts, .int y_bitsRead, .int y_fewestBits])), (h_c, .inr (2, [.ref h_w, .ref h_r, .ref c_tape, .ref h_t, .ref h_y, .int c_latestSpent])), (h_w, .inl (cI, 8, .inl vw))] := hD
  refine lv_if_ne (tgt := 14) hx hb d_C_fails_9 (by decide) (fun c9 => ?_) (fun c9 => ?_)
  · have hw := hw.1 c9
    refine lv_aload_n hx hb d_C_fails_14 rfl (lv_at hl 0 rfl) ?_
    refine lv_iload_n hx hb d_C_fails_15 rfl (lv_at hl 1 rfl) ?_
    refine lv_iload_n hx hb d_C_fails_16 rfl (lv_at hl 2 rfl) ?_
    refine lv_iload_n hx hb d_C_fails_17 rfl (lv_at hl 3 rfl) ?_
    refine lv_iload hx hb d_C_fails_18 (lv_at hl 4 rfl) ?_
    refine lv_iconst (v := (-1)) hx hb d_C_fails_20 (by decide) ?_
    refine g_cVv (wr := []) fx (c_C_tryAllTapes l D cI h_c h_w h_r h_t h_b h_y c_tape Nb c_latestSpent vw vr t_size t_at vb y_hits y_runOuts y_bitsRead y_fewestBits x1 x2 x3 x4 (-1) _ hw) mf_C_tryAllTapes w_187 ⟨rfl, rfl⟩ ⟨Nat.le_of_ble_eq_true rfl, Nat.le_of_ble_eq_true rfl⟩ hN hK hA hP hD hS [4, 5, 0, 1, 2, 3] [] rfl rfl rfl rfl (by decide) 0 rfl rfl rfl rfl hl.1 (Nat.le_of_ble_eq_true rfl) d_C_fails_21 ⟨Nat.zero_le _, Nat.zero_le _⟩ (fun u H locs hw hP hD hS => ?_)
    obtain ⟨vr_2, tsize_3, tat_4, vb_5, yhits_6, yrunOuts_7, ybitsRead_8, yfewestBits_9⟩ := u
    try dsimp only at hw
    have hP : va_P D gCl [(h_c, .inr (2, [.ref h_w, .ref h_r, .ref c_tape, .ref h_t, .ref h_y, .int c_latestSpent])), (h_w, .inl (cI, 8, .inl vw)), (h_r, .inl (cI, 4, .inl vr_2)), (h_t, .inr (1, [.ref h_b, .int tsize_3, .int tat_4])), (h_b, .inl (cI, Nb, .inl vb_5)), (h_y, .inr (0, [.int yhits_6, .int yrunOuts_7, .int ybitsRead_8, .int yfewestBits_9]))] H := hP
    have hD : va_D A [(h_c, .inr (2, [.ref h_w, .ref h_r, .ref c_tape, .ref h_t, .ref h_y, .int c_latestSpent])), (h_w, .inl (cI, 8, .inl vw)), (h_r, .inl (cI, 4, .inl vr_2)), (h_t, .inr (1, [.ref h_b, .int tsize_3, .int tat_4])), (h_b, .inl (cI, Nb, .inl vb_5)), (h_y, .inr (0, [.int yhits_6, .int yrunOuts_7, .int ybitsRead_8, .int yfewestBits_9]))] := hD
    refine lv_aload_n hx hb d_C_fails_24 rfl (lv_at hl 0 rfl) ?_
    refine gGet fx hK hP 0 rfl inC rfl (k := 4) (by decide) w_59 rfl d_C_fails_25 ?_
    refine gGetN fx hN hK hP 5 rfl inY rfl (k := 1) (by decide) gN_2 rfl d_C_fails_28 ?_
    exact hret _ _ _ (vr_2, tsize_3, tat_4, vb_5, yhits_6, yrunOuts_7, ybitsRead_8, yfewestBits_9) _ _ hw rfl hP hD hS d_C_fails_31
  · have hw := hw.2 c9
    refine lv_iconst (v := (-1)) hx hb d_C_fails_12 (by decide) ?_
    exact hret _ _ _ (vr, t_size, t_at, vb, y_hits, y_runOuts, y_bitsRead, y_fewestBits) _ _ hw rfl (gSubP hP [4, 5, 0, 1, 2, 3] rfl) (hD.sub [4, 5, 0, 1, 2, 3] rfl rfl) hS d_C_fails_13
def wp_C_work (post : Int32 → (Nat → Int32) → Int32 → Int32 → (Nat → Int32) → Int32 → Int32 → Int32 → Int32 → Prop) (Nb : Nat) (c_latestSpent : Int32) (vw : Nat → Int32) (vr : Nat → Int32) (t_size : Int32) (t_at : Int32) (vb : Nat → Int32) (y_hits : Int32) (y_runOuts : Int32) (y_bitsRead : Int32) (y_fewestBits : Int32) (x1 : Int32) (x2 : Int32) (x3 : Int32) (x4 : Int32) : Prop :=
  wp_C_isCountable (fun r_1 => ((¬ r_1 = 0 → wp_C_tryAllTapes (fun vr_2 tsize_3 tat_4 vb_5 yhits_6 yrunOuts_7 ybitsRead_8 yfewestBits_9 => post ybitsRead_8 vr_2 tsize_3 tat_4 vb_5 yhits_6 yrunOuts_7 ybitsRead_8 yfewestBits_9) Nb c_latestSpent vw vr t_size t_at vb y_hits y_runOuts y_bitsRead y_fewestBits x1 x2 x3 x4 (-1)) ∧ (r_1 = 0 → post (-1) vr t_size t_at vb y_hits y_runOuts y_bitsRead y_fewestBits))) c_latestSpent vw x1 x2 x3 x4
abbrev rm_C_work : Room := { frames := 6, cells := 0, slots := 0, locals := 147 }
theorem mf_C_work : gFV y_C_work b_C_work 5 (some .int) 4 := ⟨w_216, w_1, ⟨by decide, by decide, by decide +kernel⟩, w_214, w_215⟩
set_option maxHeartbeats 4000000 in
set_option maxRecDepth 100000 in
theorem c_C_work (l : Launch) (D : va_G) (cI : ClassId) (h_c : Nat) (h_w : Nat) (h_r : Nat) (h_t : Nat) (h_b : Nat) (h_y : Nat) (c_tape : Nat) (Nb : Nat) (c_latestSpent : Int32) (vw : Nat → Int32) (vr : Nat → Int32) (t_size : Int32) (t_at : Int32) (vb : Nat → Int32) (y_hits : Int32) (y_runOuts : Int32) (y_bitsRead : Int32) (y_fewestBits : Int32) (x1 : Int32) (x2 : Int32) (x3 : Int32) (x4 : Int32) (post : Int32 → (Nat → Int32) → Int32 → Int32 → (Nat → Int32) → Int32 → Int32 → Int32 → Int32 → Prop) (hw : wp_C_work post Nb c_latestSpent vw vr t_size t_at vb y_hits y_runOuts y_bitsRead y_fewestBits x1 x2 x3 x4) :
    gMi l D [(cI, .int)] y_C_work b_C_work 5 .int rm_C_work [.ref h_c, .int x1, .int x2, .int x3, .int x4] [(h_c, .inr (2, [.ref h_w, .ref h_r, .ref c_tape, .ref h_t, .ref h_y, .int c_latestSpent])), (h_w, .inl (cI, 8, .inl vw)), (h_r, .inl (cI, 4, .inl vr)), (h_t, .inr (1, [.ref h_b, .int t_size, .int t_at])), (h_b, .inl (cI, Nb, .inl vb)), (h_y, .inr (0, [.int y_hits, .int y_runOuts, .int y_bitsRead, .int y_fewestBits]))] (S := (Nat → Int32) × Int32 × Int32 × (Nat → Int32) × Int32 × Int32 × Int32 × Int32) (fun u => [(h_c, .inr (2, [.ref h_w, .ref h_r, .ref c_tape, .ref h_t, .ref h_y, .int c_latestSpent])), (h_w, .inl (cI, 8, .inl vw)), (h_r, .inl (cI, 4, .inl u.1)), (h_t, .inr (1, [.ref h_b, .int u.2.1, .int u.2.2.1])), (h_b, .inl (cI, Nb, .inl u.2.2.2.1)), (h_y, .inr (0, [.int u.2.2.2.2.1, .int u.2.2.2.2.2.1, .int u.2.2.2.2.2.2.1, .int u.2.2.2.2.2.2.2]))]) (fun r u => post r u.1 u.2.1 u.2.2.1 u.2.2.2.1 u.2.2.2.2.1 u.2.2.2.2.2.1 u.2.2.2.2.2.2.1 u.2.2.2.2.2.2.2) := by
  rw [wp_C_work] at hw
  refine gMi.of (by decide) (Nat.le_of_ble_eq_true rfl) (fun p e s m args below meth c A Q ls hx hb hml hown hts hN hK hA hP hD hret hl => ?_)
  have fx : CallFix p m c b_C_work 5 s args gG "TapeCounter" := ⟨hx, hb, hml, hown, hts⟩
  have hl : lv_has ls 5 [(0, .ref h_c), (1, .int x1), (2, .int x2), (3, .int x3), (4, .int x4)] := hl
  have hS : va_S A s.heap s.heap [] := va_S.rf
  refine lv_aload_n hx hb d_C_work_0 rfl (lv_at hl 0 rfl) ?_
  refine lv_iload_n hx hb d_C_work_1 rfl (lv_at hl 1 rfl) ?_
  refine lv_iload_n hx hb d_C_work_2 rfl (lv_at hl 2 rfl) ?_
  refine lv_iload_n hx hb d_C_work_3 rfl (lv_at hl 3 rfl) ?_
  refine lv_iload hx hb d_C_work_4 (lv_at hl 4 rfl) ?_
  refine g_cVi (wr := [(h_r, .inl (cI, 4, .inl vr)), (h_t, .inr (1, [.ref h_b, .int t_size, .int t_at])), (h_b, .inl (cI, Nb, .inl vb)), (h_y, .inr (0, [.int y_hits, .int y_runOuts, .int y_bitsRead, .int y_fewestBits]))]) fx (c_C_isCountable l D cI h_c h_w h_r c_tape h_t h_y c_latestSpent vw x1 x2 x3 x4 _ hw) mf_C_isCountable w_183 ⟨rfl, rfl⟩ ⟨Nat.le_of_ble_eq_true rfl, Nat.le_of_ble_eq_true rfl⟩ hN hK hA hP hD hS [0, 1] [2, 3, 4, 5] rfl rfl rfl rfl (by decide) 0 rfl rfl rfl rfl hl.1 (Nat.le_of_ble_eq_true rfl) d_C_work_6 ⟨Nat.zero_le _, Nat.zero_le _⟩ (fun r_1 u H locs hw hP hD hS => ?_)
  try dsimp only at hw
  have hP : va_P D gCl [(h_r, .inl (cI, 4, .inl vr)), (h_t, .inr (1, [.ref h_b, .int t_size, .int t_at])), (h_b, .inl (cI, Nb, .inl vb)), (h_y, .inr (0, [.int y_hits, .int y_runOuts, .int y_bitsRead, .int y_fewestBits])), (h_c, .inr (2, [.ref h_w, .ref h_r, .ref c_tape, .ref h_t, .ref h_y, .int c_latestSpent])), (h_w, .inl (cI, 8, .inl vw))] H := hP
  have hD : va_D A [(h_r, .inl (cI, 4, .inl vr)), (h_t, .inr (1, [.ref h_b, .int t_size, .int t_at])), (h_b, .inl (cI, Nb, .inl vb)), (h_y, .inr (0, [.int y_hits, .int y_runOuts, .int y_bitsRead, .int y_fewestBits])), (h_c, .inr (2, [.ref h_w, .ref h_r, .ref c_tape, .ref h_t, .ref h_y, .int c_latestSpent])), (h_w, .inl (cI, 8, .inl vw))] := hD
  refine lv_if_ne (tgt := 14) hx hb d_C_work_9 (by decide) (fun c9 => ?_) (fun c9 => ?_)
  · have hw := hw.1 c9
    refine lv_aload_n hx hb d_C_work_14 rfl (lv_at hl 0 rfl) ?_
    refine lv_iload_n hx hb d_C_work_15 rfl (lv_at hl 1 rfl) ?_
    refine lv_iload_n hx hb d_C_work_16 rfl (lv_at hl 2 rfl) ?_
    refine lv_iload_n hx hb d_C_work_17 rfl (lv_at hl 3 rfl) ?_
    refine lv_iload hx hb d_C_work_18 (lv_at hl 4 rfl) ?_
    refine lv_iconst (v := (-1)) hx hb d_C_work_20 (by decide) ?_
    refine g_cVv (wr := []) fx (c_C_tryAllTapes l D cI h_c h_w h_r h_t h_b h_y c_tape Nb c_latestSpent vw vr t_size t_at vb y_hits y_runOuts y_bitsRead y_fewestBits x1 x2 x3 x4 (-1) _ hw) mf_C_tryAllTapes w_187 ⟨rfl, rfl⟩ ⟨Nat.le_of_ble_eq_true rfl, Nat.le_of_ble_eq_true rfl⟩ hN hK hA hP hD hS [4, 5, 0, 1, 2, 3] [] rfl rfl rfl rfl (by decide) 0 rfl rfl rfl rfl hl.1 (Nat.le_of_ble_eq_true rfl) d_C_work_21 ⟨Nat.zero_le _, Nat.zero_le _⟩ (fun u H locs hw hP hD hS => ?_)
    obtain ⟨vr_2, tsize_3, tat_4, vb_5, yhits_6, yrunOuts_7, ybitsRead_8, yfewestBits_9⟩ := u
    try dsimp only at hw
    have hP : va_P D gCl [(h_c, .inr (2, [.ref h_w, .ref h_r, .ref c_tape, .ref h_t, .ref h_y, .int c_latestSpent])), (h_w, .inl (cI, 8, .inl vw)), (h_r, .inl (cI, 4, .inl vr_2)), (h_t, .inr (1, [.ref h_b, .int tsize_3, .int tat_4])), (h_b, .inl (cI, Nb, .inl vb_5)), (h_y, .inr (0, [.int yhits_6, .int yrunOuts_7, .int ybitsRead_8, .int yfewestBits_9]))] H := hP
    have hD : va_D A [(h_c, .inr (2, [.ref h_w, .ref h_r, .ref c_tape, .ref h_t, .ref h_y, .int c_latestSpent])), (h_w, .inl (cI, 8, .inl vw)), (h_r, .inl (cI, 4, .inl vr_2)), (h_t, .inr (1, [.ref h_b, .int tsize_3, .int tat_4])), (h_b, .inl (cI, Nb, .inl vb_5)), (h_y, .inr (0, [.int yhits_6, .int yrunOuts_7, .int ybitsRead_8, .int yfewestBits_9]))] := hD
    refine lv_aload_n hx hb d_C_work_24 rfl (lv_at hl 0 rfl) ?_
    refine gGet fx hK hP 0 rfl inC rfl (k := 4) (by decide) w_59 rfl d_C_work_25 ?_
    refine gGetN fx hN hK hP 5 rfl inY rfl (k := 2) (by decide) gN_3 rfl d_C_work_28 ?_
    exact hret _ _ _ (vr_2, tsize_3, tat_4, vb_5, yhits_6, yrunOuts_7, ybitsRead_8, yfewestBits_9) _ _ hw rfl hP hD hS d_C_work_31
  · have hw := hw.2 c9
    refine lv_iconst (v := (-1)) hx hb d_C_work_12 (by decide) ?_
    exact hret _ _ _ (vr, t_size, t_at, vb, y_hits, y_runOuts, y_bitsRead, y_fewestBits) _ _ hw rfl (gSubP hP [4, 5, 0, 1, 2, 3] rfl) (hD.sub [4, 5, 0, 1, 2, 3] rfl rfl) hS d_C_work_13
def wp_C_first (post : Int32 → (Nat → Int32) → Int32 → Int32 → (Nat → Int32) → Int32 → Int32 → Int32 → Int32 → Prop) (Nb : Nat) (c_latestSpent : Int32) (vw : Nat → Int32) (vr : Nat → Int32) (t_size : Int32) (t_at : Int32) (vb : Nat → Int32) (y_hits : Int32) (y_runOuts : Int32) (y_bitsRead : Int32) (y_fewestBits : Int32) (x1 : Int32) (x2 : Int32) (x3 : Int32) (x4 : Int32) : Prop :=
  wp_C_isOne (fun r_1 => ((¬ r_1 = 0 → wp_C_tryAllTapes (fun vr_2 tsize_3 tat_4 vb_5 yhits_6 yrunOuts_7 ybitsRead_8 yfewestBits_9 => post yfewestBits_9 vr_2 tsize_3 tat_4 vb_5 yhits_6 yrunOuts_7 ybitsRead_8 yfewestBits_9) Nb c_latestSpent vw vr t_size t_at vb y_hits y_runOuts y_bitsRead y_fewestBits x1 x2 x3 (nI 12) x4) ∧ (r_1 = 0 → post (-1) vr t_size t_at vb y_hits y_runOuts y_bitsRead y_fewestBits))) c_latestSpent vw x1 x2 x3
abbrev rm_C_first : Room := { frames := 6, cells := 0, slots := 0, locals := 147 }
theorem mf_C_first : gFV y_C_first b_C_first 5 (some .int) 4 := ⟨w_220, w_1, ⟨by decide, by decide, by decide +kernel⟩, w_218, w_219⟩
set_option maxHeartbeats 4000000 in
set_option maxRecDepth 100000 in
theorem c_C_first (l : Launch) (D : va_G) (cI : ClassId) (h_c : Nat) (h_w : Nat) (h_r : Nat) (h_t : Nat) (h_b : Nat) (h_y : Nat) (c_tape : Nat) (Nb : Nat) (c_latestSpent : Int32) (vw : Nat → Int32) (vr : Nat → Int32) (t_size : Int32) (t_at : Int32) (vb : Nat → Int32) (y_hits : Int32) (y_runOuts : Int32) (y_bitsRead : Int32) (y_fewestBits : Int32) (x1 : Int32) (x2 : Int32) (x3 : Int32) (x4 : Int32) (post : Int32 → (Nat → Int32) → Int32 → Int32 → (Nat → Int32) → Int32 → Int32 → Int32 → Int32 → Prop) (hw : wp_C_first post Nb c_latestSpent vw vr t_size t_at vb y_hits y_runOuts y_bitsRead y_fewestBits x1 x2 x3 x4) :
    gMi l D [(cI, .int)] y_C_first b_C_first 5 .int rm_C_first [.ref h_c, .int x1, .int x2, .int x3, .int x4] [(h_c, .inr (2, [.ref h_w, .ref h_r, .ref c_tape, .ref h_t, .ref h_y, .int c_latestSpent])), (h_w, .inl (cI, 8, .inl vw)), (h_r, .inl (cI, 4, .inl vr)), (h_t, .inr (1, [.ref h_b, .int t_size, .int t_at])), (h_b, .inl (cI, Nb, .inl vb)), (h_y, .inr (0, [.int y_hits, .int y_runOuts, .int y_bitsRead, .int y_fewestBits]))] (S := (Nat → Int32) × Int32 × Int32 × (Nat → Int32) × Int32 × Int32 × Int32 × Int32) (fun u => [(h_c, .inr (2, [.ref h_w, .ref h_r, .ref c_tape, .ref h_t, .ref h_y, .int c_latestSpent])), (h_w, .inl (cI, 8, .inl vw)), (h_r, .inl (cI, 4, .inl u.1)), (h_t, .inr (1, [.ref h_b, .int u.2.1, .int u.2.2.1])), (h_b, .inl (cI, Nb, .inl u.2.2.2.1)), (h_y, .inr (0, [.int u.2.2.2.2.1, .int u.2.2.2.2.2.1, .int u.2.2.2.2.2.2.1, .int u.2.2.2.2.2.2.2]))]) (fun r u => post r u.1 u.2.1 u.2.2.1 u.2.2.2.1 u.2.2.2.2.1 u.2.2.2.2.2.1 u.2.2.2.2.2.2.1 u.2.2.2.2.2.2.2) := by
  rw [wp_C_first] at hw
  refine gMi.of (by decide) (Nat.le_of_ble_eq_true rfl) (fun p e s m args below meth c A Q ls hx hb hml hown hts hN hK hA hP hD hret hl => ?_)
  have fx : CallFix p m c b_C_first 5 s args gG "TapeCounter" := ⟨hx, hb, hml, hown, hts⟩
  have hl : lv_has ls 5 [(0, .ref h_c), (1, .int x1), (2, .int x2), (3, .int x3), (4, .int x4)] := hl
  have hS : va_S A s.heap s.heap [] := va_S.rf
  refine lv_aload_n hx hb d_C_first_0 rfl (lv_at hl 0 rfl) ?_
  refine lv_iload_n hx hb d_C_first_1 rfl (lv_at hl 1 rfl) ?_
  refine lv_iload_n hx hb d_C_first_2 rfl (lv_at hl 2 rfl) ?_
  refine lv_iload_n hx hb d_C_first_3 rfl (lv_at hl 3 rfl) ?_
  refine g_cVi (wr := [(h_r, .inl (cI, 4, .inl vr)), (h_t, .inr (1, [.ref h_b, .int t_size, .int t_at])), (h_b, .inl (cI, Nb, .inl vb)), (h_y, .inr (0, [.int y_hits, .int y_runOuts, .int y_bitsRead, .int y_fewestBits]))]) fx (c_C_isOne l D cI h_c h_w h_r c_tape h_t h_y c_latestSpent vw x1 x2 x3 _ hw) mf_C_isOne w_113 ⟨rfl, rfl⟩ ⟨Nat.le_of_ble_eq_true rfl, Nat.le_of_ble_eq_true rfl⟩ hN hK hA hP hD hS [0, 1] [2, 3, 4, 5] rfl rfl rfl rfl (by decide) 0 rfl rfl rfl rfl hl.1 (Nat.le_of_ble_eq_true rfl) d_C_first_4 ⟨Nat.zero_le _, Nat.zero_le _⟩ (fun r_1 u H locs hw hP hD hS => ?_)
  try dsimp only at hw
  have hP : va_P D gCl [(h_r, .inl (cI, 4, .inl vr)), (h_t, .inr (1, [.ref h_b, .int t_size, .int t_at])), (h_b, .inl (cI, Nb, .inl vb)), (h_y, .inr (0, [.int y_hits, .int y_runOuts, .int y_bitsRead, .int y_fewestBits])), (h_c, .inr (2, [.ref h_w, .ref h_r, .ref c_tape, .ref h_t, .ref h_y, .int c_latestSpent])), (h_w, .inl (cI, 8, .inl vw))] H := hP
  have hD : va_D A [(h_r, .inl (cI, 4, .inl vr)), (h_t, .inr (1, [.ref h_b, .int t_size, .int t_at])), (h_b, .inl (cI, Nb, .inl vb)), (h_y, .inr (0, [.int y_hits, .int y_runOuts, .int y_bitsRead, .int y_fewestBits])), (h_c, .inr (2, [.ref h_w, .ref h_r, .ref c_tape, .ref h_t, .ref h_y, .int c_latestSpent])), (h_w, .inl (cI, 8, .inl vw))] := hD
  refine lv_if_ne (tgt := 12) hx hb d_C_first_7 (by decide) (fun c7 => ?_) (fun c7 => ?_)
  · have hw := hw.1 c7
    refine lv_aload_n hx hb d_C_first_12 rfl (lv_at hl 0 rfl) ?_
    refine lv_iload_n hx hb d_C_first_13 rfl (lv_at hl 1 rfl) ?_
    refine lv_iload_n hx hb d_C_first_14 rfl (lv_at hl 2 rfl) ?_
    refine lv_iload_n hx hb d_C_first_15 rfl (lv_at hl 3 rfl) ?_
    refine lv_bipush (v := (nI 12)) hx hb d_C_first_16 (by decide) ?_
    refine lv_iload hx hb d_C_first_18 (lv_at hl 4 rfl) ?_
    refine g_cVv (wr := []) fx (c_C_tryAllTapes l D cI h_c h_w h_r h_t h_b h_y c_tape Nb c_latestSpent vw vr t_size t_at vb y_hits y_runOuts y_bitsRead y_fewestBits x1 x2 x3 (nI 12) x4 _ hw) mf_C_tryAllTapes w_187 ⟨rfl, rfl⟩ ⟨Nat.le_of_ble_eq_true rfl, Nat.le_of_ble_eq_true rfl⟩ hN hK hA hP hD hS [4, 5, 0, 1, 2, 3] [] rfl rfl rfl rfl (by decide) 0 rfl rfl rfl rfl hl.1 (Nat.le_of_ble_eq_true rfl) d_C_first_20 ⟨Nat.zero_le _, Nat.zero_le _⟩ (fun u H locs hw hP hD hS => ?_)
    obtain ⟨vr_2, tsize_3, tat_4, vb_5, yhits_6, yrunOuts_7, ybitsRead_8, yfewestBits_9⟩ := u
    try dsimp only at hw
    have hP : va_P D gCl [(h_c, .inr (2, [.ref h_w, .ref h_r, .ref c_tape, .ref h_t, .ref h_y, .int c_latestSpent])), (h_w, .inl (cI, 8, .inl vw)), (h_r, .inl (cI, 4, .inl vr_2)), (h_t, .inr (1, [.ref h_b, .int tsize_3, .int tat_4])), (h_b, .inl (cI, Nb, .inl vb_5)), (h_y, .inr (0, [.int yhits_6, .int yrunOuts_7, .int ybitsRead_8, .int yfewestBits_9]))] H := hP
    have hD : va_D A [(h_c, .inr (2, [.ref h_w, .ref h_r, .ref c_tape, .ref h_t, .ref h_y, .int c_latestSpent])), (h_w, .inl (cI, 8, .inl vw)), (h_r, .inl (cI, 4, .inl vr_2)), (h_t, .inr (1, [.ref h_b, .int tsize_3, .int tat_4])), (h_b, .inl (cI, Nb, .inl vb_5)), (h_y, .inr (0, [.int yhits_6, .int yrunOuts_7, .int ybitsRead_8, .int yfewestBits_9]))] := hD
    refine lv_aload_n hx hb d_C_first_23 rfl (lv_at hl 0 rfl) ?_
    refine gGet fx hK hP 0 rfl inC rfl (k := 4) (by decide) w_59 rfl d_C_first_24 ?_
    refine gGetN fx hN hK hP 5 rfl inY rfl (k := 3) (by decide) gN_4 rfl d_C_first_27 ?_
    exact hret _ _ _ (vr_2, tsize_3, tat_4, vb_5, yhits_6, yrunOuts_7, ybitsRead_8, yfewestBits_9) _ _ hw rfl hP hD hS d_C_first_30
  · have hw := hw.2 c7
    refine lv_iconst (v := (-1)) hx hb d_C_first_10 (by decide) ?_
    exact hret _ _ _ (vr, t_size, t_at, vb, y_hits, y_runOuts, y_bitsRead, y_fewestBits) _ _ hw rfl (gSubP hP [4, 5, 0, 1, 2, 3] rfl) (hD.sub [4, 5, 0, 1, 2, 3] rfl rfl) hS d_C_first_11
