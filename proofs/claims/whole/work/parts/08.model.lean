def wp_M_weigh (post : Int32 → (Nat → Int32) → Prop) (o_length : Int32) (o_spent : Int32) (o_many : Int32) (o_at : Int32) (o_isOut : Int32) (o_values : Int32) (o_failures : Int32) (o_works : Int32) (vw : Nat → Int32) (x1 : Int32) (x2 : Int32) : Prop :=
  ((x1 < 0 → post (nI 0) vw) ∧ (¬ x1 < 0 → (((nI 7) < x1 → post (nI 0) vw) ∧ (¬ (nI 7) < x1 → ((x2 < 0 → post (nI 0) vw) ∧ (¬ x2 < 0 → ((x2 ≤ (nI 15) → (vp_in x1 8 ∧ post (nI 1) (upd vw (x1).toNatClampNeg x2))) ∧ (¬ x2 ≤ (nI 15) → post (nI 0) vw))))))))
abbrev rm_M_weigh : Room := { frames := 0, cells := 0, slots := 0, locals := 0 }
theorem mf_M_weigh : gFV y_M_weigh b_M_weigh 3 (some .boolean) 2 := ⟨w_267, w_4, ⟨by decide, by decide, by decide +kernel⟩, w_265, w_266⟩
set_option maxHeartbeats 4000000 in
set_option maxRecDepth 100000 in
theorem c_M_weigh (l : Launch) (D : va_G) (cI : ClassId) (h_o : Nat) (h_w : Nat) (o_tape : Nat) (o_bits : Nat) (o_row : Nat) (o_length : Int32) (o_spent : Int32) (o_many : Int32) (o_at : Int32) (o_isOut : Int32) (o_values : Int32) (o_failures : Int32) (o_works : Int32) (vw : Nat → Int32) (x1 : Int32) (x2 : Int32) (post : Int32 → (Nat → Int32) → Prop) (hw : wp_M_weigh post o_length o_spent o_many o_at o_isOut o_values o_failures o_works vw x1 x2) :
    gMi l D [(cI, .int)] y_M_weigh b_M_weigh 3 .boolean rm_M_weigh [.ref h_o, .int x1, .int x2] [(h_o, .inr (3, [.ref h_w, .ref o_tape, .int o_length, .int o_spent, .ref o_bits, .int o_many, .int o_at, .int o_isOut, .ref o_row, .int o_values, .int o_failures, .int o_works])), (h_w, .inl (cI, 8, .inl vw))] (S := (Nat → Int32)) (fun u => [(h_o, .inr (3, [.ref h_w, .ref o_tape, .int o_length, .int o_spent, .ref o_bits, .int o_many, .int o_at, .int o_isOut, .ref o_row, .int o_values, .int o_failures, .int o_works])), (h_w, .inl (cI, 8, .inl u))]) (fun r u => post r u) := by
  rw [wp_M_weigh] at hw
  refine gMi.of (by decide) (Nat.le_of_ble_eq_true rfl) (fun p e s m args below meth c A Q ls hx hb hml hown hts hN hK hA hP hD hret hl => ?_)
  have fx : CallFix p m c b_M_weigh 3 s args gG "TapeCounterModel" := ⟨hx, hb, hml, hown, hts⟩
  have hl : lv_has ls 3 [(0, .ref h_o), (1, .int x1), (2, .int x2)] := hl
  have hS : va_S A s.heap s.heap [] := va_S.rf
  refine lv_iload_n hx hb d_M_weigh_0 rfl (lv_at hl 1 rfl) ?_
  refine lv_if_lt (tgt := 20) hx hb d_M_weigh_1 (by decide) (fun c1 => ?_) (fun c1 => ?_)
  · have hw := hw.1 c1
    refine lv_iconst (v := (nI 0)) hx hb d_M_weigh_20 (by decide) ?_
    exact hret _ _ _ vw _ _ hw rfl hP hD hS d_M_weigh_21
  · have hw := hw.2 c1
    refine lv_iload_n hx hb d_M_weigh_4 rfl (lv_at hl 1 rfl) ?_
    refine lv_bipush (v := (nI 7)) hx hb d_M_weigh_5 (by decide) ?_
    refine lv_icmp_gt (tgt := 20) hx hb d_M_weigh_7 (by decide) (fun c7 => ?_) (fun c7 => ?_)
    · have hw := hw.1 c7
      refine lv_iconst (v := (nI 0)) hx hb d_M_weigh_20 (by decide) ?_
      exact hret _ _ _ vw _ _ hw rfl hP hD hS d_M_weigh_21
    · have hw := hw.2 c7
      refine lv_iload_n hx hb d_M_weigh_10 rfl (lv_at hl 2 rfl) ?_
      refine lv_if_lt (tgt := 20) hx hb d_M_weigh_11 (by decide) (fun c11 => ?_) (fun c11 => ?_)
      · have hw := hw.1 c11
        refine lv_iconst (v := (nI 0)) hx hb d_M_weigh_20 (by decide) ?_
        exact hret _ _ _ vw _ _ hw rfl hP hD hS d_M_weigh_21
      · have hw := hw.2 c11
        refine lv_iload_n hx hb d_M_weigh_14 rfl (lv_at hl 2 rfl) ?_
        refine lv_bipush (v := (nI 15)) hx hb d_M_weigh_15 (by decide) ?_
        refine lv_icmp_le (tgt := 22) hx hb d_M_weigh_17 (by decide) (fun c17 => ?_) (fun c17 => ?_)
        · have hw := hw.1 c17
          refine lv_aload_n hx hb d_M_weigh_22 rfl (lv_at hl 0 rfl) ?_
          refine gGet fx hK hP 0 rfl inM rfl (k := 0) (by decide) w_227 rfl d_M_weigh_23 ?_
          refine lv_iload_n hx hb d_M_weigh_26 rfl (lv_at hl 1 rfl) ?_
          refine lv_iload_n hx hb d_M_weigh_27 rfl (lv_at hl 2 rfl) ?_
          refine va_iast hx hb hK hP hD hS 1 0 rfl rfl hw.1 d_M_weigh_28 (fun H locs hP hD hS => ?_)
          have hw := hw.2
          have hP : va_P D gCl [(h_o, .inr (3, [.ref h_w, .ref o_tape, .int o_length, .int o_spent, .ref o_bits, .int o_many, .int o_at, .int o_isOut, .ref o_row, .int o_values, .int o_failures, .int o_works])), (h_w, .inl (cI, 8, .inl (upd vw (x1).toNatClampNeg x2)))] H := hP
          have hD : va_D A [(h_o, .inr (3, [.ref h_w, .ref o_tape, .int o_length, .int o_spent, .ref o_bits, .int o_many, .int o_at, .int o_isOut, .ref o_row, .int o_values, .int o_failures, .int o_works])), (h_w, .inl (cI, 8, .inl (upd vw (x1).toNatClampNeg x2)))] := hD
          refine lv_iconst (v := (nI 1)) hx hb d_M_weigh_29 (by decide) ?_
          exact hret _ _ _ (upd vw (x1).toNatClampNeg x2) _ _ hw rfl hP hD hS d_M_weigh_30
        · have hw := hw.2 c17
          refine lv_iconst (v := (nI 0)) hx hb d_M_weigh_20 (by decide) ?_
          exact hret _ _ _ vw _ _ hw rfl hP hD hS d_M_weigh_21
def wp_M_weight (post : Int32 → Prop) (o_length : Int32) (o_spent : Int32) (o_many : Int32) (o_at : Int32) (o_isOut : Int32) (o_values : Int32) (o_failures : Int32) (o_works : Int32) (vw : Nat → Int32) (x1 : Int32) : Prop :=
  ((x1 < 0 → post (-1)) ∧ (¬ x1 < 0 → ((x1 ≤ (nI 7) → (vp_in x1 8 ∧ post (vw (x1).toNatClampNeg))) ∧ (¬ x1 ≤ (nI 7) → post (-1)))))
abbrev rm_M_weight : Room := { frames := 0, cells := 0, slots := 0, locals := 0 }
theorem mf_M_weight : gFV y_M_weight b_M_weight 2 (some .int) 1 := ⟨w_271, w_4, ⟨by decide, by decide, by decide +kernel⟩, w_269, w_270⟩
set_option maxHeartbeats 4000000 in
set_option maxRecDepth 100000 in
theorem c_M_weight (l : Launch) (D : va_G) (cI : ClassId) (h_o : Nat) (h_w : Nat) (o_tape : Nat) (o_bits : Nat) (o_row : Nat) (o_length : Int32) (o_spent : Int32) (o_many : Int32) (o_at : Int32) (o_isOut : Int32) (o_values : Int32) (o_failures : Int32) (o_works : Int32) (vw : Nat → Int32) (x1 : Int32) (post : Int32 → Prop) (hw : wp_M_weight post o_length o_spent o_many o_at o_isOut o_values o_failures o_works vw x1) :
    gMi l D [(cI, .int)] y_M_weight b_M_weight 2 .int rm_M_weight [.ref h_o, .int x1] [(h_o, .inr (3, [.ref h_w, .ref o_tape, .int o_length, .int o_spent, .ref o_bits, .int o_many, .int o_at, .int o_isOut, .ref o_row, .int o_values, .int o_failures, .int o_works])), (h_w, .inl (cI, 8, .inl vw))] (S := Unit) (fun u => [(h_o, .inr (3, [.ref h_w, .ref o_tape, .int o_length, .int o_spent, .ref o_bits, .int o_many, .int o_at, .int o_isOut, .ref o_row, .int o_values, .int o_failures, .int o_works])), (h_w, .inl (cI, 8, .inl vw))]) (fun r u => post r) := by
  rw [wp_M_weight] at hw
  refine gMi.of (by decide) (Nat.le_of_ble_eq_true rfl) (fun p e s m args below meth c A Q ls hx hb hml hown hts hN hK hA hP hD hret hl => ?_)
  have fx : CallFix p m c b_M_weight 2 s args gG "TapeCounterModel" := ⟨hx, hb, hml, hown, hts⟩
  have hl : lv_has ls 2 [(0, .ref h_o), (1, .int x1)] := hl
  have hS : va_S A s.heap s.heap [] := va_S.rf
  refine lv_iload_n hx hb d_M_weight_0 rfl (lv_at hl 1 rfl) ?_
  refine lv_if_lt (tgt := 10) hx hb d_M_weight_1 (by decide) (fun c1 => ?_) (fun c1 => ?_)
  · have hw := hw.1 c1
    refine lv_iconst (v := (-1)) hx hb d_M_weight_10 (by decide) ?_
    refine lv_goto (tgt := 20) hx hb d_M_weight_11 (by decide) ?_
    exact hret _ _ _ () _ _ hw rfl hP hD hS d_M_weight_20
  · have hw := hw.2 c1
    refine lv_iload_n hx hb d_M_weight_4 rfl (lv_at hl 1 rfl) ?_
    refine lv_bipush (v := (nI 7)) hx hb d_M_weight_5 (by decide) ?_
    refine lv_icmp_le (tgt := 14) hx hb d_M_weight_7 (by decide) (fun c7 => ?_) (fun c7 => ?_)
    · have hw := hw.1 c7
      refine lv_aload_n hx hb d_M_weight_14 rfl (lv_at hl 0 rfl) ?_
      refine gGet fx hK hP 0 rfl inM rfl (k := 0) (by decide) w_227 rfl d_M_weight_15 ?_
      refine lv_iload_n hx hb d_M_weight_18 rfl (lv_at hl 1 rfl) ?_
      refine va_iald hx hb hK hP 1 0 rfl rfl hw.1 d_M_weight_19 ?_
      have hw := hw.2
      exact hret _ _ _ () _ _ hw rfl hP hD hS d_M_weight_20
    · have hw := hw.2 c7
      refine lv_iconst (v := (-1)) hx hb d_M_weight_10 (by decide) ?_
      refine lv_goto (tgt := 20) hx hb d_M_weight_11 (by decide) ?_
      exact hret _ _ _ () _ _ hw rfl hP hD hS d_M_weight_20
def wpF_M_feed_28 (post : Int32 → Int32 → (Nat → Int32) → Prop) (x1 : Int32) (K_28 : Int32 → (Nat → Int32) → Int32 → Prop) (o_length : Int32) (vq : Nat → Int32) (x3 : Int32) : Prop :=
  ((x3 < 0 → post o_length o_length vq) ∧ (¬ x3 < 0 → (vp_in o_length 256 ∧ K_28 (o_length + (nI 1)) (upd vq (o_length).toNatClampNeg ((x1 >>> (x3 &&& 31)) &&& (nI 1))) (x3 + (-1)))))
def wp_M_feed (post : Int32 → Int32 → (Nat → Int32) → Prop) (o_length : Int32) (o_spent : Int32) (o_many : Int32) (o_at : Int32) (o_isOut : Int32) (o_values : Int32) (o_failures : Int32) (o_works : Int32) (vq : Nat → Int32) (x1 : Int32) (x2 : Int32) : Prop :=
  ((x2 < 0 → post (-1) o_length vq) ∧ (¬ x2 < 0 → (((nI 32) < x2 → post (-1) o_length vq) ∧ (¬ (nI 32) < x2 → (((o_length + x2) ≤ (nI 256) → (∃ n, gL3 (wpF_M_feed_28 post x1) n o_length vq (x2 - (nI 1)))) ∧ (¬ (o_length + x2) ≤ (nI 256) → post (-1) o_length vq))))))
abbrev rm_M_feed : Room := { frames := 0, cells := 0, slots := 0, locals := 0 }
theorem mf_M_feed : gFV y_M_feed b_M_feed 4 (some .int) 2 := ⟨w_275, w_4, ⟨by decide, by decide, by decide +kernel⟩, w_273, w_274⟩
set_option maxHeartbeats 4000000 in
set_option maxRecDepth 100000 in
theorem c_M_feed (l : Launch) (D : va_G) (cI : ClassId) (h_o : Nat) (h_q : Nat) (o_weights : Nat) (o_bits : Nat) (o_row : Nat) (o_length : Int32) (o_spent : Int32) (o_many : Int32) (o_at : Int32) (o_isOut : Int32) (o_values : Int32) (o_failures : Int32) (o_works : Int32) (vq : Nat → Int32) (x1 : Int32) (x2 : Int32) (post : Int32 → Int32 → (Nat → Int32) → Prop) (hw : wp_M_feed post o_length o_spent o_many o_at o_isOut o_values o_failures o_works vq x1 x2) :
    gMi l D [(cI, .int)] y_M_feed b_M_feed 4 .int rm_M_feed [.ref h_o, .int x1, .int x2] [(h_o, .inr (3, [.ref o_weights, .ref h_q, .int o_length, .int o_spent, .ref o_bits, .int o_many, .int o_at, .int o_isOut, .ref o_row, .int o_values, .int o_failures, .int o_works])), (h_q, .inl (cI, 256, .inl vq))] (S := Int32 × (Nat → Int32)) (fun u => [(h_o, .inr (3, [.ref o_weights, .ref h_q, .int u.1, .int o_spent, .ref o_bits, .int o_many, .int o_at, .int o_isOut, .ref o_row, .int o_values, .int o_failures, .int o_works])), (h_q, .inl (cI, 256, .inl u.2))]) (fun r u => post r u.1 u.2) := by
  rw [wp_M_feed] at hw
  refine gMi.of (by decide) (Nat.le_of_ble_eq_true rfl) (fun p e s m args below meth c A Q ls hx hb hml hown hts hN hK hA hP hD hret hl => ?_)
  have fx : CallFix p m c b_M_feed 4 s args gG "TapeCounterModel" := ⟨hx, hb, hml, hown, hts⟩
  have hl : lv_has ls 4 [(0, .ref h_o), (1, .int x1), (2, .int x2)] := hl
  have hS : va_S A s.heap s.heap [] := va_S.rf
  refine lv_iload_n hx hb d_M_feed_0 rfl (lv_at hl 2 rfl) ?_
  refine lv_if_lt (tgt := 22) hx hb d_M_feed_1 (by decide) (fun c1 => ?_) (fun c1 => ?_)
  · have hw := hw.1 c1
    refine lv_iconst (v := (-1)) hx hb d_M_feed_22 (by decide) ?_
    exact hret _ _ _ (o_length, vq) _ _ hw rfl hP hD hS d_M_feed_23
  · have hw := hw.2 c1
    refine lv_iload_n hx hb d_M_feed_4 rfl (lv_at hl 2 rfl) ?_
    refine lv_bipush (v := (nI 32)) hx hb d_M_feed_5 (by decide) ?_
    refine lv_icmp_gt (tgt := 22) hx hb d_M_feed_7 (by decide) (fun c7 => ?_) (fun c7 => ?_)
    · have hw := hw.1 c7
      refine lv_iconst (v := (-1)) hx hb d_M_feed_22 (by decide) ?_
      exact hret _ _ _ (o_length, vq) _ _ hw rfl hP hD hS d_M_feed_23
    · have hw := hw.2 c7
      refine lv_aload_n hx hb d_M_feed_10 rfl (lv_at hl 0 rfl) ?_
      refine gGet fx hK hP 0 rfl inM rfl (k := 2) (by decide) w_229 rfl d_M_feed_11 ?_
      refine lv_iload_n hx hb d_M_feed_14 rfl (lv_at hl 2 rfl) ?_
      refine lv_iadd hx hb d_M_feed_15 ?_
      refine lv_sipush (v := (nI 256)) hx hb d_M_feed_16 (by decide) ?_
      refine lv_icmp_le (tgt := 24) hx hb d_M_feed_19 (by decide) (fun c19 => ?_) (fun c19 => ?_)
      · have hw := hw.1 c19
        refine lv_iload_n hx hb d_M_feed_24 rfl (lv_at hl 2 rfl) ?_
        refine lv_iconst (v := (nI 1)) hx hb d_M_feed_25 (by decide) ?_
        refine lv_isub hx hb d_M_feed_26 ?_
        refine lv_istore_n (lv' := [(3, .int (x2 - (nI 1))), (0, .ref h_o), (1, .int x1), (2, .int x2)]) hx hb d_M_feed_27 rfl hl (by decide) rfl (fun ls hl => ?_)
        obtain ⟨n_28, hw⟩ := hw
        have k_28 : ∀ (n_28 : Nat) (o_length : Int32) (vq : Nat → Int32) (x3 : Int32), gL3 (wpF_M_feed_28 post x1) n_28 o_length vq x3 → ∀ (H : Heap) (locs : List Loc) (ls : Array Slot), va_P D gCl [(h_o, .inr (3, [.ref o_weights, .ref h_q, .int o_length, .int o_spent, .ref o_bits, .int o_many, .int o_at, .int o_isOut, .ref o_row, .int o_values, .int o_failures, .int o_works])), (h_q, .inl (cI, 256, .inl vq))] H → va_D A [(h_o, .inr (3, [.ref o_weights, .ref h_q, .int o_length, .int o_spent, .ref o_bits, .int o_many, .int o_at, .int o_isOut, .ref o_row, .int o_values, .int o_failures, .int o_works])), (h_q, .inl (cI, 256, .inl vq))] → va_S A s.heap H locs → lv_has ls 4 [(3, .int x3), (0, .ref h_o), (1, .int x1)] → W p l e rm_M_feed s m args below meth c H locs 0 0 Q (F0 m 28 ls []) := by
          clear hw hP hD hS hl
          intro n_28
          induction n_28 with
          | zero => exact fun _ _ _ h => h.elim
          | succ n_28 ih_28 =>
            intro o_length vq x3 hw H locs ls hP hD hS hl
            have hw : wpF_M_feed_28 post x1 (gL3 (wpF_M_feed_28 post x1) n_28) o_length vq x3 := hw
            rw [wpF_M_feed_28] at hw
            refine lv_iload_n hx hb d_M_feed_28 rfl (lv_at hl 0 rfl) ?_
            refine lv_if_lt (tgt := 62) hx hb d_M_feed_29 (by decide) (fun c29 => ?_) (fun c29 => ?_)
            · have hw := hw.1 c29
              refine lv_aload_n hx hb d_M_feed_62 rfl (lv_at hl 1 rfl) ?_
              refine gGet fx hK hP 0 rfl inM rfl (k := 2) (by decide) w_229 rfl d_M_feed_63 ?_
              exact hret _ _ _ (o_length, vq) _ _ hw rfl hP hD hS d_M_feed_66
            · have hw := hw.2 c29
              refine lv_aload_n hx hb d_M_feed_32 rfl (lv_at hl 1 rfl) ?_
              refine gGet fx hK hP 0 rfl inM rfl (k := 1) (by decide) w_228 rfl d_M_feed_33 ?_
              refine lv_aload_n hx hb d_M_feed_36 rfl (lv_at hl 1 rfl) ?_
              refine gGet fx hK hP 0 rfl inM rfl (k := 2) (by decide) w_229 rfl d_M_feed_37 ?_
              refine lv_iload_n hx hb d_M_feed_40 rfl (lv_at hl 2 rfl) ?_
              refine lv_iload_n hx hb d_M_feed_41 rfl (lv_at hl 0 rfl) ?_
              refine lv_ishr hx hb d_M_feed_42 ?_
              refine lv_iconst (v := (nI 1)) hx hb d_M_feed_43 (by decide) ?_
              refine lv_iand hx hb d_M_feed_44 ?_
              refine va_iast hx hb hK hP hD hS 1 0 rfl rfl hw.1 d_M_feed_45 (fun H locs hP hD hS => ?_)
              have hw := hw.2
              have hP : va_P D gCl [(h_o, .inr (3, [.ref o_weights, .ref h_q, .int o_length, .int o_spent, .ref o_bits, .int o_many, .int o_at, .int o_isOut, .ref o_row, .int o_values, .int o_failures, .int o_works])), (h_q, .inl (cI, 256, .inl (upd vq (o_length).toNatClampNeg ((x1 >>> (x3 &&& 31)) &&& (nI 1)))))] H := hP
              have hD : va_D A [(h_o, .inr (3, [.ref o_weights, .ref h_q, .int o_length, .int o_spent, .ref o_bits, .int o_many, .int o_at, .int o_isOut, .ref o_row, .int o_values, .int o_failures, .int o_works])), (h_q, .inl (cI, 256, .inl (upd vq (o_length).toNatClampNeg ((x1 >>> (x3 &&& 31)) &&& (nI 1)))))] := hD
              refine lv_aload_n hx hb d_M_feed_46 rfl (lv_at hl 1 rfl) ?_
              refine lv_dup hx hb d_M_feed_47 rfl ?_
              refine gGet fx hK hP 0 rfl inM rfl (k := 2) (by decide) w_229 rfl d_M_feed_48 ?_
              refine lv_iconst (v := (nI 1)) hx hb d_M_feed_51 (by decide) ?_
              refine lv_iadd hx hb d_M_feed_52 ?_
              refine gPut fx hK hP hD hS 0 rfl inM tyM nmM rfl (k := 2) (by decide) w_229 rfl rfl rfl (Nat.le_of_ble_eq_true rfl) d_M_feed_53 (fun H locs hP hD hS => ?_)
              have hP : va_P D gCl [(h_o, .inr (3, [.ref o_weights, .ref h_q, .int (o_length + (nI 1)), .int o_spent, .ref o_bits, .int o_many, .int o_at, .int o_isOut, .ref o_row, .int o_values, .int o_failures, .int o_works])), (h_q, .inl (cI, 256, .inl (upd vq (o_length).toNatClampNeg ((x1 >>> (x3 &&& 31)) &&& (nI 1)))))] H := hP
              have hD : va_D A [(h_o, .inr (3, [.ref o_weights, .ref h_q, .int (o_length + (nI 1)), .int o_spent, .ref o_bits, .int o_many, .int o_at, .int o_isOut, .ref o_row, .int o_values, .int o_failures, .int o_works])), (h_q, .inl (cI, 256, .inl (upd vq (o_length).toNatClampNeg ((x1 >>> (x3 &&& 31)) &&& (nI 1)))))] := hD
              refine lv_iinc (v := (x3 + (-1))) (lv' := [(3, .int (x3 + (-1))), (0, .ref h_o), (1, .int x1)]) hx hb d_M_feed_56 hl (k := 0) rfl (by rw [i32_m1]) (by decide) rfl (fun ls hl => ?_)
              refine lv_goto (tgt := 28) hx hb d_M_feed_59 (by decide) ?_
              exact ih_28 _ _ _ hw _ _ _ hP hD hS (lv_sub hl [0, 1, 2] rfl)
        exact k_28 n_28 _ _ _ hw _ _ _ hP hD hS (lv_sub hl [0, 1, 2] rfl)
      · have hw := hw.2 c19
        refine lv_iconst (v := (-1)) hx hb d_M_feed_22 (by decide) ?_
        exact hret _ _ _ (o_length, vq) _ _ hw rfl hP hD hS d_M_feed_23
def wp_M_left (post : Int32 → Prop) (o_length : Int32) (o_spent : Int32) (o_many : Int32) (o_at : Int32) (o_isOut : Int32) (o_values : Int32) (o_failures : Int32) (o_works : Int32) : Prop :=
  post o_length
abbrev rm_M_left : Room := { frames := 0, cells := 0, slots := 0, locals := 0 }
theorem mf_M_left : gFV y_M_left b_M_left 1 (some .int) 0 := ⟨w_279, w_4, ⟨by decide, by decide, by decide +kernel⟩, w_277, w_278⟩
set_option maxHeartbeats 4000000 in
set_option maxRecDepth 100000 in
theorem c_M_left (l : Launch) (D : va_G) (cI : ClassId) (h_o : Nat) (o_weights : Nat) (o_tape : Nat) (o_bits : Nat) (o_row : Nat) (o_length : Int32) (o_spent : Int32) (o_many : Int32) (o_at : Int32) (o_isOut : Int32) (o_values : Int32) (o_failures : Int32) (o_works : Int32) (post : Int32 → Prop) (hw : wp_M_left post o_length o_spent o_many o_at o_isOut o_values o_failures o_works) :
    gMi l D [(cI, .int)] y_M_left b_M_left 1 .int rm_M_left [.ref h_o] [(h_o, .inr (3, [.ref o_weights, .ref o_tape, .int o_length, .int o_spent, .ref o_bits, .int o_many, .int o_at, .int o_isOut, .ref o_row, .int o_values, .int o_failures, .int o_works]))] (S := Unit) (fun u => [(h_o, .inr (3, [.ref o_weights, .ref o_tape, .int o_length, .int o_spent, .ref o_bits, .int o_many, .int o_at, .int o_isOut, .ref o_row, .int o_values, .int o_failures, .int o_works]))]) (fun r u => post r) := by
  rw [wp_M_left] at hw
  refine gMi.of (by decide) (Nat.le_of_ble_eq_true rfl) (fun p e s m args below meth c A Q ls hx hb hml hown hts hN hK hA hP hD hret hl => ?_)
  have fx : CallFix p m c b_M_left 1 s args gG "TapeCounterModel" := ⟨hx, hb, hml, hown, hts⟩
  have hl : lv_has ls 1 [(0, .ref h_o)] := hl
  have hS : va_S A s.heap s.heap [] := va_S.rf
  refine lv_aload_n hx hb d_M_left_0 rfl (lv_at hl 0 rfl) ?_
  refine gGet fx hK hP 0 rfl inM rfl (k := 2) (by decide) w_229 rfl d_M_left_1 ?_
  exact hret _ _ _ () _ _ hw rfl hP hD hS d_M_left_4
def wp_M_spent (post : Int32 → Prop) (o_length : Int32) (o_spent : Int32) (o_many : Int32) (o_at : Int32) (o_isOut : Int32) (o_values : Int32) (o_failures : Int32) (o_works : Int32) : Prop :=
  post o_spent
abbrev rm_M_spent : Room := { frames := 0, cells := 0, slots := 0, locals := 0 }
theorem mf_M_spent : gFV y_M_spent b_M_spent 1 (some .int) 0 := ⟨w_328, w_4, ⟨by decide, by decide, by decide +kernel⟩, w_326, w_327⟩
set_option maxHeartbeats 4000000 in
set_option maxRecDepth 100000 in
theorem c_M_spent (l : Launch) (D : va_G) (cI : ClassId) (h_o : Nat) (o_weights : Nat) (o_tape : Nat) (o_bits : Nat) (o_row : Nat) (o_length : Int32) (o_spent : Int32) (o_many : Int32) (o_at : Int32) (o_isOut : Int32) (o_values : Int32) (o_failures : Int32) (o_works : Int32) (post : Int32 → Prop) (hw : wp_M_spent post o_length o_spent o_many o_at o_isOut o_values o_failures o_works) :
    gMi l D [(cI, .int)] y_M_spent b_M_spent 1 .int rm_M_spent [.ref h_o] [(h_o, .inr (3, [.ref o_weights, .ref o_tape, .int o_length, .int o_spent, .ref o_bits, .int o_many, .int o_at, .int o_isOut, .ref o_row, .int o_values, .int o_failures, .int o_works]))] (S := Unit) (fun u => [(h_o, .inr (3, [.ref o_weights, .ref o_tape, .int o_length, .int o_spent, .ref o_bits, .int o_many, .int o_at, .int o_isOut, .ref o_row, .int o_values, .int o_failures, .int o_works]))]) (fun r u => post r) := by
  rw [wp_M_spent] at hw
  refine gMi.of (by decide) (Nat.le_of_ble_eq_true rfl) (fun p e s m args below meth c A Q ls hx hb hml hown hts hN hK hA hP hD hret hl => ?_)
  have fx : CallFix p m c b_M_spent 1 s args gG "TapeCounterModel" := ⟨hx, hb, hml, hown, hts⟩
  have hl : lv_has ls 1 [(0, .ref h_o)] := hl
  have hS : va_S A s.heap s.heap [] := va_S.rf
  refine lv_aload_n hx hb d_M_spent_0 rfl (lv_at hl 0 rfl) ?_
  refine gGet fx hK hP 0 rfl inM rfl (k := 3) (by decide) w_230 rfl d_M_spent_1 ?_
  exact hret _ _ _ () _ _ hw rfl hP hD hS d_M_spent_4
def wpF_M_sum_4 (post : Int32 → Prop) (vw : Nat → Int32) (K_4 : Int32 → Int32 → Prop) (x1 : Int32) (x2 : Int32) : Prop :=
  (((nI 8) ≤ x2 → post x1) ∧ (¬ (nI 8) ≤ x2 → (vp_in x2 8 ∧ K_4 (x1 + (vw (x2).toNatClampNeg)) (x2 + (nI 1)))))
def wp_M_sum (post : Int32 → Prop) (o_length : Int32) (o_spent : Int32) (o_many : Int32) (o_at : Int32) (o_isOut : Int32) (o_values : Int32) (o_failures : Int32) (o_works : Int32) (vw : Nat → Int32) : Prop :=
  (∃ n, gL2 (wpF_M_sum_4 post vw) n (nI 0) (nI 0))
abbrev rm_M_sum : Room := { frames := 0, cells := 0, slots := 0, locals := 0 }
theorem mf_M_sum : gFV y_M_sum b_M_sum 3 (some .int) 0 := ⟨w_287, w_4, ⟨by decide, by decide, by decide +kernel⟩, w_286, ws_1_7⟩
set_option maxHeartbeats 4000000 in
set_option maxRecDepth 100000 in
theorem c_M_sum (l : Launch) (D : va_G) (cI : ClassId) (h_o : Nat) (h_w : Nat) (o_tape : Nat) (o_bits : Nat) (o_row : Nat) (o_length : Int32) (o_spent : Int32) (o_many : Int32) (o_at : Int32) (o_isOut : Int32) (o_values : Int32) (o_failures : Int32) (o_works : Int32) (vw : Nat → Int32) (post : Int32 → Prop) (hw : wp_M_sum post o_length o_spent o_many o_at o_isOut o_values o_failures o_works vw) :
    gMi l D [(cI, .int)] y_M_sum b_M_sum 3 .int rm_M_sum [.ref h_o] [(h_o, .inr (3, [.ref h_w, .ref o_tape, .int o_length, .int o_spent, .ref o_bits, .int o_many, .int o_at, .int o_isOut, .ref o_row, .int o_values, .int o_failures, .int o_works])), (h_w, .inl (cI, 8, .inl vw))] (S := Unit) (fun u => [(h_o, .inr (3, [.ref h_w, .ref o_tape, .int o_length, .int o_spent, .ref o_bits, .int o_many, .int o_at, .int o_isOut, .ref o_row, .int o_values, .int o_failures, .int o_works])), (h_w, .inl (cI, 8, .inl vw))]) (fun r u => post r) := by
  rw [wp_M_sum] at hw
  refine gMi.of (by decide) (Nat.le_of_ble_eq_true rfl) (fun p e s m args below meth c A Q ls hx hb hml hown hts hN hK hA hP hD hret hl => ?_)
  have fx : CallFix p m c b_M_sum 3 s args gG "TapeCounterModel" := ⟨hx, hb, hml, hown, hts⟩
  have hl : lv_has ls 3 [(0, .ref h_o)] := hl
  have hS : va_S A s.heap s.heap [] := va_S.rf
  refine lv_iconst (v := (nI 0)) hx hb d_M_sum_0 (by decide) ?_
  refine lv_istore_n (lv' := [(1, .int (nI 0)), (0, .ref h_o)]) hx hb d_M_sum_1 rfl hl (by decide) rfl (fun ls hl => ?_)
  refine lv_iconst (v := (nI 0)) hx hb d_M_sum_2 (by decide) ?_
  refine lv_istore_n (lv' := [(2, .int (nI 0)), (1, .int (nI 0)), (0, .ref h_o)]) hx hb d_M_sum_3 rfl hl (by decide) rfl (fun ls hl => ?_)
  obtain ⟨n_4, hw⟩ := hw
  have k_4 : ∀ (n_4 : Nat) (x1 : Int32) (x2 : Int32), gL2 (wpF_M_sum_4 post vw) n_4 x1 x2 → ∀ (H : Heap) (locs : List Loc) (ls : Array Slot), va_P D gCl [(h_o, .inr (3, [.ref h_w, .ref o_tape, .int o_length, .int o_spent, .ref o_bits, .int o_many, .int o_at, .int o_isOut, .ref o_row, .int o_values, .int o_failures, .int o_works])), (h_w, .inl (cI, 8, .inl vw))] H → va_D A [(h_o, .inr (3, [.ref h_w, .ref o_tape, .int o_length, .int o_spent, .ref o_bits, .int o_many, .int o_at, .int o_isOut, .ref o_row, .int o_values, .int o_failures, .int o_works])), (h_w, .inl (cI, 8, .inl vw))] → va_S A s.heap H locs → lv_has ls 3 [(2, .int x2), (1, .int x1), (0, .ref h_o)] → W p l e rm_M_sum s m args below meth c H locs 0 0 Q (F0 m 4 ls []) := by
    clear hw hP hD hS hl
    intro n_4
    induction n_4 with
    | zero => exact fun _ _ h => h.elim
    | succ n_4 ih_4 =>
      intro x1 x2 hw H locs ls hP hD hS hl
      have hw : wpF_M_sum_4 post vw (gL2 (wpF_M_sum_4 post vw) n_4) x1 x2 := hw
      rw [wpF_M_sum_4] at hw
      refine lv_iload_n hx hb d_M_sum_4 rfl (lv_at hl 0 rfl) ?_
      refine lv_bipush (v := (nI 8)) hx hb d_M_sum_5 (by decide) ?_
      refine lv_icmp_ge (tgt := 25) hx hb d_M_sum_7 (by decide) (fun c7 => ?_) (fun c7 => ?_)
      · have hw := hw.1 c7
        refine lv_iload_n hx hb d_M_sum_25 rfl (lv_at hl 1 rfl) ?_
        exact hret _ _ _ () _ _ hw rfl hP hD hS d_M_sum_26
      · have hw := hw.2 c7
        refine lv_iload_n hx hb d_M_sum_10 rfl (lv_at hl 1 rfl) ?_
        refine lv_aload_n hx hb d_M_sum_11 rfl (lv_at hl 2 rfl) ?_
        refine gGet fx hK hP 0 rfl inM rfl (k := 0) (by decide) w_227 rfl d_M_sum_12 ?_
        refine lv_iload_n hx hb d_M_sum_15 rfl (lv_at hl 0 rfl) ?_
        refine va_iald hx hb hK hP 1 0 rfl rfl hw.1 d_M_sum_16 ?_
        have hw := hw.2
        refine lv_iadd hx hb d_M_sum_17 ?_
        refine lv_istore_n (lv' := [(1, .int (x1 + (vw (x2).toNatClampNeg))), (2, .int x2), (0, .ref h_o)]) hx hb d_M_sum_18 rfl hl (by decide) rfl (fun ls hl => ?_)
        refine lv_iinc (v := (x2 + (nI 1))) (lv' := [(2, .int (x2 + (nI 1))), (1, .int (x1 + (vw (x2).toNatClampNeg))), (0, .ref h_o)]) hx hb d_M_sum_19 hl (k := 1) rfl rfl (by decide) rfl (fun ls hl => ?_)
        refine lv_goto (tgt := 4) hx hb d_M_sum_22 (by decide) ?_
        exact ih_4 _ _ hw _ _ _ hP hD hS (lv_sub hl [0, 1, 2] rfl)
  exact k_4 n_4 _ _ hw _ _ _ hP hD hS (lv_sub hl [0, 1, 2] rfl)
def wp_M_isOne (post : Int32 → Prop) (o_length : Int32) (o_spent : Int32) (o_many : Int32) (o_at : Int32) (o_isOut : Int32) (o_values : Int32) (o_failures : Int32) (o_works : Int32) (vw : Nat → Int32) (x1 : Int32) (x2 : Int32) (x3 : Int32) : Prop :=
  ((x1 = nI 0 → ((x2 < (nI 1) → post (nI 0)) ∧ (¬ x2 < (nI 1) → (((nI 64) < x2 → post (nI 0)) ∧ (¬ (nI 64) < x2 → post (nI 1)))))) ∧ (¬ x1 = nI 0 → ((x1 = nI 1 → ((x2 < (nI 1) → post (nI 0)) ∧ (¬ x2 < (nI 1) → (((nI 64) < x2 → post (nI 0)) ∧ (¬ (nI 64) < x2 → post (nI 1)))))) ∧ (¬ x1 = nI 1 → ((x1 = nI 2 → ((x3 < (nI 1) → post (nI 0)) ∧ (¬ x3 < (nI 1) → (((nI 64) < x3 → post (nI 0)) ∧ (¬ (nI 64) < x3 → ((x2 < 0 → post (nI 0)) ∧ (¬ x2 < 0 → ((x3 < x2 → post (nI 0)) ∧ (¬ x3 < x2 → post (nI 1)))))))))) ∧ (¬ x1 = nI 2 → ((x1 = nI 3 → ((x2 < 0 → post (nI 0)) ∧ (¬ x2 < 0 → (((nI 12) < x2 → post (nI 0)) ∧ (¬ (nI 12) < x2 → post (nI 1)))))) ∧ (¬ x1 = nI 3 → ((x1 = nI 4 → ((x2 < 0 → post (nI 0)) ∧ (¬ x2 < 0 → (((nI 12) < x2 → post (nI 0)) ∧ (¬ (nI 12) < x2 → post (nI 1)))))) ∧ (¬ x1 = nI 4 → ((x1 = nI 5 → ((x2 < (nI 1) → post (nI 0)) ∧ (¬ x2 < (nI 1) → (((nI 4) < x2 → post (nI 0)) ∧ (¬ (nI 4) < x2 → post (nI 1)))))) ∧ (¬ x1 = nI 5 → ((x1 = nI 6 → ((x2 < (nI 1) → post (nI 0)) ∧ (¬ x2 < (nI 1) → (((nI 6) < x2 → post (nI 0)) ∧ (¬ (nI 6) < x2 → ((x3 < 0 → post (nI 0)) ∧ (¬ x3 < 0 → ((x2 < x3 → post (nI 0)) ∧ (¬ x2 < x3 → post (nI 1)))))))))) ∧ (¬ x1 = nI 6 → ((x1 = nI 7 → wp_M_sum (fun r_1 => ((r_1 < (nI 1) → post (nI 0)) ∧ (¬ r_1 < (nI 1) → wp_M_sum (fun r_2 => (((nI 64) < r_2 → post (nI 0)) ∧ (¬ (nI 64) < r_2 → post (nI 1)))) o_length o_spent o_many o_at o_isOut o_values o_failures o_works vw))) o_length o_spent o_many o_at o_isOut o_values o_failures o_works vw) ∧ (¬ x1 = nI 7 → post (nI 0)))))))))))))))))
abbrev rm_M_isOne : Room := { frames := 1, cells := 0, slots := 0, locals := 22 }
theorem mf_M_isOne : gFV y_M_isOne b_M_isOne 4 (some .boolean) 3 := ⟨w_283, w_4, ⟨by decide, by decide, by decide +kernel⟩, w_281, w_282⟩
set_option maxHeartbeats 4000000 in
set_option maxRecDepth 100000 in
theorem c_M_isOne (l : Launch) (D : va_G) (cI : ClassId) (h_o : Nat) (h_w : Nat) (o_tape : Nat) (o_bits : Nat) (o_row : Nat) (o_length : Int32) (o_spent : Int32) (o_many : Int32) (o_at : Int32) (o_isOut : Int32) (o_values : Int32) (o_failures : Int32) (o_works : Int32) (vw : Nat → Int32) (x1 : Int32) (x2 : Int32) (x3 : Int32) (post : Int32 → Prop) (hw : wp_M_isOne post o_length o_spent o_many o_at o_isOut o_values o_failures o_works vw x1 x2 x3) :
    gMi l D [(cI, .int)] y_M_isOne b_M_isOne 4 .boolean rm_M_isOne [.ref h_o, .int x1, .int x2, .int x3] [(h_o, .inr (3, [.ref h_w, .ref o_tape, .int o_length, .int o_spent, .ref o_bits, .int o_many, .int o_at, .int o_isOut, .ref o_row, .int o_values, .int o_failures, .int o_works])), (h_w, .inl (cI, 8, .inl vw))] (S := Unit) (fun u => [(h_o, .inr (3, [.ref h_w, .ref o_tape, .int o_length, .int o_spent, .ref o_bits, .int o_many, .int o_at, .int o_isOut, .ref o_row, .int o_values, .int o_failures, .int o_works])), (h_w, .inl (cI, 8, .inl vw))]) (fun r u => post r) := by
  rw [wp_M_isOne] at hw
  refine gMi.of (by decide) (Nat.le_of_ble_eq_true rfl) (fun p e s m args below meth c A Q ls hx hb hml hown hts hN hK hA hP hD hret hl => ?_)
  have fx : CallFix p m c b_M_isOne 4 s args gG "TapeCounterModel" := ⟨hx, hb, hml, hown, hts⟩
  have hl : lv_has ls 4 [(0, .ref h_o), (1, .int x1), (2, .int x2), (3, .int x3)] := hl
  have hS : va_S A s.heap s.heap [] := va_S.rf
  refine lv_iload_n hx hb d_M_isOne_0 rfl (lv_at hl 1 rfl) ?_
  rcases Classical.em (x1 = nI 0) with c1_0 | c1_0
  · have hw := hw.1 c1_0
    refine g_sw (nI 0) (tgt := 48) hx hb d_M_isOne_1 c1_0 (by decide) (by decide) rfl (by decide) ?_
    refine lv_iload_n hx hb d_M_isOne_48 rfl (lv_at hl 2 rfl) ?_
    refine lv_iconst (v := (nI 1)) hx hb d_M_isOne_49 (by decide) ?_
    refine lv_icmp_lt (tgt := 63) hx hb d_M_isOne_50 (by decide) (fun c50 => ?_) (fun c50 => ?_)
    · have hw := hw.1 c50
      refine lv_iconst (v := (nI 0)) hx hb d_M_isOne_63 (by decide) ?_
      exact hret _ _ _ () _ _ hw rfl hP hD hS d_M_isOne_64
    · have hw := hw.2 c50
      refine lv_iload_n hx hb d_M_isOne_53 rfl (lv_at hl 2 rfl) ?_
      refine lv_bipush (v := (nI 64)) hx hb d_M_isOne_54 (by decide) ?_
      refine lv_icmp_gt (tgt := 63) hx hb d_M_isOne_56 (by decide) (fun c56 => ?_) (fun c56 => ?_)
      · have hw := hw.1 c56
        refine lv_iconst (v := (nI 0)) hx hb d_M_isOne_63 (by decide) ?_
        exact hret _ _ _ () _ _ hw rfl hP hD hS d_M_isOne_64
      · have hw := hw.2 c56
        refine lv_iconst (v := (nI 1)) hx hb d_M_isOne_59 (by decide) ?_
        refine lv_goto (tgt := 64) hx hb d_M_isOne_60 (by decide) ?_
        exact hret _ _ _ () _ _ hw rfl hP hD hS d_M_isOne_64
  · have hw := hw.2 c1_0
    rcases Classical.em (x1 = nI 1) with c1_1 | c1_1
    · have hw := hw.1 c1_1
      refine g_sw (nI 1) (tgt := 48) hx hb d_M_isOne_1 c1_1 (by decide) (by decide) rfl (by decide) ?_
      refine lv_iload_n hx hb d_M_isOne_48 rfl (lv_at hl 2 rfl) ?_
      refine lv_iconst (v := (nI 1)) hx hb d_M_isOne_49 (by decide) ?_
      refine lv_icmp_lt (tgt := 63) hx hb d_M_isOne_50 (by decide) (fun c50 => ?_) (fun c50 => ?_)
      · have hw := hw.1 c50
        refine lv_iconst (v := (nI 0)) hx hb d_M_isOne_63 (by decide) ?_
        exact hret _ _ _ () _ _ hw rfl hP hD hS d_M_isOne_64
      · have hw := hw.2 c50
        refine lv_iload_n hx hb d_M_isOne_53 rfl (lv_at hl 2 rfl) ?_
        refine lv_bipush (v := (nI 64)) hx hb d_M_isOne_54 (by decide) ?_
        refine lv_icmp_gt (tgt := 63) hx hb d_M_isOne_56 (by decide) (fun c56 => ?_) (fun c56 => ?_)
        · have hw := hw.1 c56
          refine lv_iconst (v := (nI 0)) hx hb d_M_isOne_63 (by decide) ?_
          exact hret _ _ _ () _ _ hw rfl hP hD hS d_M_isOne_64
        · have hw := hw.2 c56
          refine lv_iconst (v := (nI 1)) hx hb d_M_isOne_59 (by decide) ?_
          refine lv_goto (tgt := 64) hx hb d_M_isOne_60 (by decide) ?_
          exact hret _ _ _ () _ _ hw rfl hP hD hS d_M_isOne_64
    · have hw := hw.2 c1_1
      rcases Classical.em (x1 = nI 2) with c1_2 | c1_2
      · have hw := hw.1 c1_2
        refine g_sw (nI 2) (tgt := 65) hx hb d_M_isOne_1 c1_2 (by decide) (by decide) rfl (by decide) ?_
        refine lv_iload_n hx hb d_M_isOne_65 rfl (lv_at hl 3 rfl) ?_
        refine lv_iconst (v := (nI 1)) hx hb d_M_isOne_66 (by decide) ?_
        refine lv_icmp_lt (tgt := 89) hx hb d_M_isOne_67 (by decide) (fun c67 => ?_) (fun c67 => ?_)
        · have hw := hw.1 c67
          refine lv_iconst (v := (nI 0)) hx hb d_M_isOne_89 (by decide) ?_
          exact hret _ _ _ () _ _ hw rfl hP hD hS d_M_isOne_90
        · have hw := hw.2 c67
          refine lv_iload_n hx hb d_M_isOne_70 rfl (lv_at hl 3 rfl) ?_
          refine lv_bipush (v := (nI 64)) hx hb d_M_isOne_71 (by decide) ?_
          refine lv_icmp_gt (tgt := 89) hx hb d_M_isOne_73 (by decide) (fun c73 => ?_) (fun c73 => ?_)
          · have hw := hw.1 c73
            refine lv_iconst (v := (nI 0)) hx hb d_M_isOne_89 (by decide) ?_
            exact hret _ _ _ () _ _ hw rfl hP hD hS d_M_isOne_90
          · have hw := hw.2 c73
            refine lv_iload_n hx hb d_M_isOne_76 rfl (lv_at hl 2 rfl) ?_
            refine lv_if_lt (tgt := 89) hx hb d_M_isOne_77 (by decide) (fun c77 => ?_) (fun c77 => ?_)
            · have hw := hw.1 c77
              refine lv_iconst (v := (nI 0)) hx hb d_M_isOne_89 (by decide) ?_
              exact hret _ _ _ () _ _ hw rfl hP hD hS d_M_isOne_90
            · have hw := hw.2 c77
              refine lv_iload_n hx hb d_M_isOne_80 rfl (lv_at hl 2 rfl) ?_
              refine lv_iload_n hx hb d_M_isOne_81 rfl (lv_at hl 3 rfl) ?_
              refine lv_icmp_gt (tgt := 89) hx hb d_M_isOne_82 (by decide) (fun c82 => ?_) (fun c82 => ?_)
              · have hw := hw.1 c82
                refine lv_iconst (v := (nI 0)) hx hb d_M_isOne_89 (by decide) ?_
                exact hret _ _ _ () _ _ hw rfl hP hD hS d_M_isOne_90
              · have hw := hw.2 c82
                refine lv_iconst (v := (nI 1)) hx hb d_M_isOne_85 (by decide) ?_
                refine lv_goto (tgt := 90) hx hb d_M_isOne_86 (by decide) ?_
                exact hret _ _ _ () _ _ hw rfl hP hD hS d_M_isOne_90
      · have hw := hw.2 c1_2
        rcases Classical.em (x1 = nI 3) with c1_3 | c1_3
        · have hw := hw.1 c1_3
          refine g_sw (nI 3) (tgt := 91) hx hb d_M_isOne_1 c1_3 (by decide) (by decide) rfl (by decide) ?_
          refine lv_iload_n hx hb d_M_isOne_91 rfl (lv_at hl 2 rfl) ?_
          refine lv_if_lt (tgt := 105) hx hb d_M_isOne_92 (by decide) (fun c92 => ?_) (fun c92 => ?_)
          · have hw := hw.1 c92
            refine lv_iconst (v := (nI 0)) hx hb d_M_isOne_105 (by decide) ?_
            exact hret _ _ _ () _ _ hw rfl hP hD hS d_M_isOne_106
          · have hw := hw.2 c92
            refine lv_iload_n hx hb d_M_isOne_95 rfl (lv_at hl 2 rfl) ?_
            refine lv_bipush (v := (nI 12)) hx hb d_M_isOne_96 (by decide) ?_
            refine lv_icmp_gt (tgt := 105) hx hb d_M_isOne_98 (by decide) (fun c98 => ?_) (fun c98 => ?_)
            · have hw := hw.1 c98
              refine lv_iconst (v := (nI 0)) hx hb d_M_isOne_105 (by decide) ?_
              exact hret _ _ _ () _ _ hw rfl hP hD hS d_M_isOne_106
            · have hw := hw.2 c98
              refine lv_iconst (v := (nI 1)) hx hb d_M_isOne_101 (by decide) ?_
              refine lv_goto (tgt := 106) hx hb d_M_isOne_102 (by decide) ?_
              exact hret _ _ _ () _ _ hw rfl hP hD hS d_M_isOne_106
        · have hw := hw.2 c1_3
          rcases Classical.em (x1 = nI 4) with c1_4 | c1_4
          · have hw := hw.1 c1_4
            refine g_sw (nI 4) (tgt := 91) hx hb d_M_isOne_1 c1_4 (by decide) (by decide) rfl (by decide) ?_
            refine lv_iload_n hx hb d_M_isOne_91 rfl (lv_at hl 2 rfl) ?_
            refine lv_if_lt (tgt := 105) hx hb d_M_isOne_92 (by decide) (fun c92 => ?_) (fun c92 => ?_)
            · have hw := hw.1 c92
              refine lv_iconst (v := (nI 0)) hx hb d_M_isOne_105 (by decide) ?_
              exact hret _ _ _ () _ _ hw rfl hP hD hS d_M_isOne_106
            · have hw := hw.2 c92
              refine lv_iload_n hx hb d_M_isOne_95 rfl (lv_at hl 2 rfl) ?_
              refine lv_bipush (v := (nI 12)) hx hb d_M_isOne_96 (by decide) ?_
              refine lv_icmp_gt (tgt := 105) hx hb d_M_isOne_98 (by decide) (fun c98 => ?_) (fun c98 => ?_)
              · have hw := hw.1 c98
                refine lv_iconst (v := (nI 0)) hx hb d_M_isOne_105 (by decide) ?_
                exact hret _ _ _ () _ _ hw rfl hP hD hS d_M_isOne_106
              · have hw := hw.2 c98
                refine lv_iconst (v := (nI 1)) hx hb d_M_isOne_101 (by decide) ?_
                refine lv_goto (tgt := 106) hx hb d_M_isOne_102 (by decide) ?_
                exact hret _ _ _ () _ _ hw rfl hP hD hS d_M_isOne_106
          · have hw := hw.2 c1_4
            rcases Classical.em (x1 = nI 5) with c1_5 | c1_5
            · have hw := hw.1 c1_5
              refine g_sw (nI 5) (tgt := 107) hx hb d_M_isOne_1 c1_5 (by decide) (by decide) rfl (by decide) ?_
              refine lv_iload_n hx hb d_M_isOne_107 rfl (lv_at hl 2 rfl) ?_
              refine lv_iconst (v := (nI 1)) hx hb d_M_isOne_108 (by decide) ?_
              refine lv_icmp_lt (tgt := 121) hx hb d_M_isOne_109 (by decide) (fun c109 => ?_) (fun c109 => ?_)
              · have hw := hw.1 c109
                refine lv_iconst (v := (nI 0)) hx hb d_M_isOne_121 (by decide) ?_
                exact hret _ _ _ () _ _ hw rfl hP hD hS d_M_isOne_122
              · have hw := hw.2 c109
                refine lv_iload_n hx hb d_M_isOne_112 rfl (lv_at hl 2 rfl) ?_
                refine lv_iconst (v := (nI 4)) hx hb d_M_isOne_113 (by decide) ?_
                refine lv_icmp_gt (tgt := 121) hx hb d_M_isOne_114 (by decide) (fun c114 => ?_) (fun c114 => ?_)
                · have hw := hw.1 c114
                  refine lv_iconst (v := (nI 0)) hx hb d_M_isOne_121 (by decide) ?_
                  exact hret _ _ _ () _ _ hw rfl hP hD hS d_M_isOne_122
                · have hw := hw.2 c114
                  refine lv_iconst (v := (nI 1)) hx hb d_M_isOne_117 (by decide) ?_
                  refine lv_goto (tgt := 122) hx hb d_M_isOne_118 (by decide) ?_
                  exact hret _ _ _ () _ _ hw rfl hP hD hS d_M_isOne_122
            · have hw := hw.2 c1_5
              rcases Classical.em (x1 = nI 6) with c1_6 | c1_6
              · have hw := hw.1 c1_6
                refine g_sw (nI 6) (tgt := 123) hx hb d_M_isOne_1 c1_6 (by decide) (by decide) rfl (by decide) ?_
                refine lv_iload_n hx hb d_M_isOne_123 rfl (lv_at hl 2 rfl) ?_
                refine lv_iconst (v := (nI 1)) hx hb d_M_isOne_124 (by decide) ?_
                refine lv_icmp_lt (tgt := 147) hx hb d_M_isOne_125 (by decide) (fun c125 => ?_) (fun c125 => ?_)
                · have hw := hw.1 c125
                  refine lv_iconst (v := (nI 0)) hx hb d_M_isOne_147 (by decide) ?_
                  exact hret _ _ _ () _ _ hw rfl hP hD hS d_M_isOne_148
                · have hw := hw.2 c125
                  refine lv_iload_n hx hb d_M_isOne_128 rfl (lv_at hl 2 rfl) ?_
                  refine lv_bipush (v := (nI 6)) hx hb d_M_isOne_129 (by decide) ?_
                  refine lv_icmp_gt (tgt := 147) hx hb d_M_isOne_131 (by decide) (fun c131 => ?_) (fun c131 => ?_)
                  · have hw := hw.1 c131
                    refine lv_iconst (v := (nI 0)) hx hb d_M_isOne_147 (by decide) ?_
                    exact hret _ _ _ () _ _ hw rfl hP hD hS d_M_isOne_148
                  · have hw := hw.2 c131
                    refine lv_iload_n hx hb d_M_isOne_134 rfl (lv_at hl 3 rfl) ?_
                    refine lv_if_lt (tgt := 147) hx hb d_M_isOne_135 (by decide) (fun c135 => ?_) (fun c135 => ?_)
                    · have hw := hw.1 c135
                      refine lv_iconst (v := (nI 0)) hx hb d_M_isOne_147 (by decide) ?_
                      exact hret _ _ _ () _ _ hw rfl hP hD hS d_M_isOne_148
                    · have hw := hw.2 c135
                      refine lv_iload_n hx hb d_M_isOne_138 rfl (lv_at hl 3 rfl) ?_
                      refine lv_iload_n hx hb d_M_isOne_139 rfl (lv_at hl 2 rfl) ?_
                      refine lv_icmp_gt (tgt := 147) hx hb d_M_isOne_140 (by decide) (fun c140 => ?_) (fun c140 => ?_)
                      · have hw := hw.1 c140
                        refine lv_iconst (v := (nI 0)) hx hb d_M_isOne_147 (by decide) ?_
                        exact hret _ _ _ () _ _ hw rfl hP hD hS d_M_isOne_148
                      · have hw := hw.2 c140
                        refine lv_iconst (v := (nI 1)) hx hb d_M_isOne_143 (by decide) ?_
                        refine lv_goto (tgt := 148) hx hb d_M_isOne_144 (by decide) ?_
                        exact hret _ _ _ () _ _ hw rfl hP hD hS d_M_isOne_148
              · have hw := hw.2 c1_6
                rcases Classical.em (x1 = nI 7) with c1_7 | c1_7
                · have hw := hw.1 c1_7
                  refine g_sw (nI 7) (tgt := 149) hx hb d_M_isOne_1 c1_7 (by decide) (by decide) rfl (by decide) ?_
                  refine lv_aload_n hx hb d_M_isOne_149 rfl (lv_at hl 0 rfl) ?_
                  refine g_cVi (wr := []) fx (c_M_sum l D cI h_o h_w o_tape o_bits o_row o_length o_spent o_many o_at o_isOut o_values o_failures o_works vw _ hw) mf_M_sum w_284 ⟨rfl, rfl⟩ ⟨Nat.le_of_ble_eq_true rfl, Nat.le_of_ble_eq_true rfl⟩ hN hK hA hP hD hS [0, 1] [] rfl rfl rfl rfl (by decide) 0 rfl rfl rfl rfl hl.1 (Nat.le_of_ble_eq_true rfl) d_M_isOne_150 ⟨Nat.zero_le _, Nat.zero_le _⟩ (fun r_1 u H locs hw hP hD hS => ?_)
                  try dsimp only at hw
                  have hP : va_P D gCl [(h_o, .inr (3, [.ref h_w, .ref o_tape, .int o_length, .int o_spent, .ref o_bits, .int o_many, .int o_at, .int o_isOut, .ref o_row, .int o_values, .int o_failures, .int o_works])), (h_w, .inl (cI, 8, .inl vw))] H := hP
                  have hD : va_D A [(h_o, .inr (3, [.ref h_w, .ref o_tape, .int o_length, .int o_spent, .ref o_bits, .int o_many, .int o_at, .int o_isOut, .ref o_row, .int o_values, .int o_failures, .int o_works])), (h_w, .inl (cI, 8, .inl vw))] := hD
                  refine lv_iconst (v := (nI 1)) hx hb d_M_isOne_153 (by decide) ?_
                  refine lv_icmp_lt (tgt := 170) hx hb d_M_isOne_154 (by decide) (fun c154 => ?_) (fun c154 => ?_)
                  · have hw := hw.1 c154
                    refine lv_iconst (v := (nI 0)) hx hb d_M_isOne_170 (by decide) ?_
                    exact hret _ _ _ () _ _ hw rfl hP hD hS d_M_isOne_171
                  · have hw := hw.2 c154
                    refine lv_aload_n hx hb d_M_isOne_157 rfl (lv_at hl 0 rfl) ?_
                    refine g_cVi (wr := []) fx (c_M_sum l D cI h_o h_w o_tape o_bits o_row o_length o_spent o_many o_at o_isOut o_values o_failures o_works vw _ hw) mf_M_sum w_284 ⟨rfl, rfl⟩ ⟨Nat.le_of_ble_eq_true rfl, Nat.le_of_ble_eq_true rfl⟩ hN hK hA hP hD hS [0, 1] [] rfl rfl rfl rfl (by decide) 0 rfl rfl rfl rfl hl.1 (Nat.le_of_ble_eq_true rfl) d_M_isOne_158 ⟨Nat.zero_le _, Nat.zero_le _⟩ (fun r_2 u H locs hw hP hD hS => ?_)
                    try dsimp only at hw
                    have hP : va_P D gCl [(h_o, .inr (3, [.ref h_w, .ref o_tape, .int o_length, .int o_spent, .ref o_bits, .int o_many, .int o_at, .int o_isOut, .ref o_row, .int o_values, .int o_failures, .int o_works])), (h_w, .inl (cI, 8, .inl vw))] H := hP
                    have hD : va_D A [(h_o, .inr (3, [.ref h_w, .ref o_tape, .int o_length, .int o_spent, .ref o_bits, .int o_many, .int o_at, .int o_isOut, .ref o_row, .int o_values, .int o_failures, .int o_works])), (h_w, .inl (cI, 8, .inl vw))] := hD
                    refine lv_bipush (v := (nI 64)) hx hb d_M_isOne_161 (by decide) ?_
                    refine lv_icmp_gt (tgt := 170) hx hb d_M_isOne_163 (by decide) (fun c163 => ?_) (fun c163 => ?_)
                    · have hw := hw.1 c163
                      refine lv_iconst (v := (nI 0)) hx hb d_M_isOne_170 (by decide) ?_
                      exact hret _ _ _ () _ _ hw rfl hP hD hS d_M_isOne_171
                    · have hw := hw.2 c163
                      refine lv_iconst (v := (nI 1)) hx hb d_M_isOne_166 (by decide) ?_
                      refine lv_goto (tgt := 171) hx hb d_M_isOne_167 (by decide) ?_
                      exact hret _ _ _ () _ _ hw rfl hP hD hS d_M_isOne_171
                · have hw := hw.2 c1_7
                  refine lv_tableOut (tgt := 172) hx hb d_M_isOne_1 (by have h := g_out (x := x1) (n := 8) (by decide) (fun j hj => by rcases (show j = 0 ∨ j = 1 ∨ j = 2 ∨ j = 3 ∨ j = 4 ∨ j = 5 ∨ j = 6 ∨ j = 7 by omega) with rfl | rfl | rfl | rfl | rfl | rfl | rfl | rfl <;> assumption); omega) (by decide) ?_
                  refine lv_iconst (v := (nI 0)) hx hb d_M_isOne_172 (by decide) ?_
                  exact hret _ _ _ () _ _ hw rfl hP hD hS d_M_isOne_173
def wp_M_isAll (post : Int32 → Prop) (o_length : Int32) (o_spent : Int32) (o_many : Int32) (o_at : Int32) (o_isOut : Int32) (o_values : Int32) (o_failures : Int32) (o_works : Int32) (vw : Nat → Int32) (x1 : Int32) (x2 : Int32) (x3 : Int32) (x4 : Int32) : Prop :=
  wp_M_isOne (fun r_1 => ((r_1 = 0 → post (nI 0)) ∧ (¬ r_1 = 0 → ((x4 < 0 → post (nI 0)) ∧ (¬ x4 < 0 → (((nI 12) < x4 → post (nI 0)) ∧ (¬ (nI 12) < x4 → post (nI 1)))))))) o_length o_spent o_many o_at o_isOut o_values o_failures o_works vw x1 x2 x3
abbrev rm_M_isAll : Room := { frames := 2, cells := 0, slots := 0, locals := 45 }
theorem mf_M_isAll : gFV y_M_isAll b_M_isAll 5 (some .boolean) 4 := ⟨w_336, w_4, ⟨by decide, by decide, by decide +kernel⟩, w_335, ws_2_0⟩
set_option maxHeartbeats 4000000 in
set_option maxRecDepth 100000 in
theorem c_M_isAll (l : Launch) (D : va_G) (cI : ClassId) (h_o : Nat) (h_w : Nat) (o_tape : Nat) (o_bits : Nat) (o_row : Nat) (o_length : Int32) (o_spent : Int32) (o_many : Int32) (o_at : Int32) (o_isOut : Int32) (o_values : Int32) (o_failures : Int32) (o_works : Int32) (vw : Nat → Int32) (x1 : Int32) (x2 : Int32) (x3 : Int32) (x4 : Int32) (post : Int32 → Prop) (hw : wp_M_isAll post o_length o_spent o_many o_at o_isOut o_values o_failures o_works vw x1 x2 x3 x4) :
    gMi l D [(cI, .int)] y_M_isAll b_M_isAll 5 .boolean rm_M_isAll [.ref h_o, .int x1, .int x2, .int x3, .int x4] [(h_o, .inr (3, [.ref h_w, .ref o_tape, .int o_length, .int o_spent, .ref o_bits, .int o_many, .int o_at, .int o_isOut, .ref o_row, .int o_values, .int o_failures, .int o_works])), (h_w, .inl (cI, 8, .inl vw))] (S := Unit) (fun u => [(h_o, .inr (3, [.ref h_w, .ref o_tape, .int o_length, .int o_spent, .ref o_bits, .int o_many, .int o_at, .int o_isOut, .ref o_row, .int o_values, .int o_failures, .int o_works])), (h_w, .inl (cI, 8, .inl vw))]) (fun r u => post r) := by
  rw [wp_M_isAll] at hw
  refine gMi.of (by decide) (Nat.le_of_ble_eq_true rfl) (fun p e s m args below meth c A Q ls hx hb hml hown hts hN hK hA hP hD hret hl => ?_)
  have fx : CallFix p m c b_M_isAll 5 s args gG "TapeCounterModel" := ⟨hx, hb, hml, hown, hts⟩
  have hl : lv_has ls 5 [(0, .ref h_o), (1, .int x1), (2, .int x2), (3, .int x3), (4, .int x4)] := hl
  have hS : va_S A s.heap s.heap [] := va_S.rf
  refine lv_aload_n hx hb d_M_isAll_0 rfl (lv_at hl 0 rfl) ?_
  refine lv_iload_n hx hb d_M_isAll_1 rfl (lv_at hl 1 rfl) ?_
  refine lv_iload_n hx hb d_M_isAll_2 rfl (lv_at hl 2 rfl) ?_
  refine lv_iload_n hx hb d_M_isAll_3 rfl (lv_at hl 3 rfl) ?_
  refine g_cVi (wr := []) fx (c_M_isOne l D cI h_o h_w o_tape o_bits o_row o_length o_spent o_many o_at o_isOut o_values o_failures o_works vw x1 x2 x3 _ hw) mf_M_isOne w_292 ⟨rfl, rfl⟩ ⟨Nat.le_of_ble_eq_true rfl, Nat.le_of_ble_eq_true rfl⟩ hN hK hA hP hD hS [0, 1] [] rfl rfl rfl rfl (by decide) 0 rfl rfl rfl rfl hl.1 (Nat.le_of_ble_eq_true rfl) d_M_isAll_4 ⟨Nat.zero_le _, Nat.zero_le _⟩ (fun r_1 u H locs hw hP hD hS => ?_)
  try dsimp only at hw
  have hP : va_P D gCl [(h_o, .inr (3, [.ref h_w, .ref o_tape, .int o_length, .int o_spent, .ref o_bits, .int o_many, .int o_at, .int o_isOut, .ref o_row, .int o_values, .int o_failures, .int o_works])), (h_w, .inl (cI, 8, .inl vw))] H := hP
  have hD : va_D A [(h_o, .inr (3, [.ref h_w, .ref o_tape, .int o_length, .int o_spent, .ref o_bits, .int o_many, .int o_at, .int o_isOut, .ref o_row, .int o_values, .int o_failures, .int o_works])), (h_w, .inl (cI, 8, .inl vw))] := hD
  refine lv_if_eq (tgt := 26) hx hb d_M_isAll_7 (by decide) (fun c7 => ?_) (fun c7 => ?_)
  · have hw := hw.1 c7
    refine lv_iconst (v := (nI 0)) hx hb d_M_isAll_26 (by decide) ?_
    exact hret _ _ _ () _ _ hw rfl hP hD hS d_M_isAll_27
  · have hw := hw.2 c7
    refine lv_iload hx hb d_M_isAll_10 (lv_at hl 4 rfl) ?_
    refine lv_if_lt (tgt := 26) hx hb d_M_isAll_12 (by decide) (fun c12 => ?_) (fun c12 => ?_)
    · have hw := hw.1 c12
      refine lv_iconst (v := (nI 0)) hx hb d_M_isAll_26 (by decide) ?_
      exact hret _ _ _ () _ _ hw rfl hP hD hS d_M_isAll_27
    · have hw := hw.2 c12
      refine lv_iload hx hb d_M_isAll_15 (lv_at hl 4 rfl) ?_
      refine lv_bipush (v := (nI 12)) hx hb d_M_isAll_17 (by decide) ?_
      refine lv_icmp_gt (tgt := 26) hx hb d_M_isAll_19 (by decide) (fun c19 => ?_) (fun c19 => ?_)
      · have hw := hw.1 c19
        refine lv_iconst (v := (nI 0)) hx hb d_M_isAll_26 (by decide) ?_
        exact hret _ _ _ () _ _ hw rfl hP hD hS d_M_isAll_27
      · have hw := hw.2 c19
        refine lv_iconst (v := (nI 1)) hx hb d_M_isAll_22 (by decide) ?_
        refine lv_goto (tgt := 27) hx hb d_M_isAll_23 (by decide) ?_
        exact hret _ _ _ () _ _ hw rfl hP hD hS d_M_isAll_27
def wp_M_bit (post : Int32 → Int32 → Int32 → Prop) (o_length : Int32) (o_spent : Int32) (o_many : Int32) (o_at : Int32) (o_isOut : Int32) (o_values : Int32) (o_failures : Int32) (o_works : Int32) (vb : Nat → Int32) : Prop :=
  ((¬ o_at = o_many → (vp_in ((o_at + (nI 1)) - (nI 1)) 256 ∧ post (vb (((o_at + (nI 1)) - (nI 1))).toNatClampNeg) (o_at + (nI 1)) o_isOut)) ∧ (o_at = o_many → post (nI 0) o_at (nI 1)))
abbrev rm_M_bit : Room := { frames := 0, cells := 0, slots := 0, locals := 0 }
theorem mf_M_bit : gFV y_M_bit b_M_bit 1 (some .int) 0 := ⟨w_304, w_4, ⟨by decide, by decide, by decide +kernel⟩, w_303, ws_1_10⟩
set_option maxHeartbeats 4000000 in
set_option maxRecDepth 100000 in
theorem c_M_bit (l : Launch) (D : va_G) (cI : ClassId) (h_o : Nat) (h_b : Nat) (o_weights : Nat) (o_tape : Nat) (o_row : Nat) (o_length : Int32) (o_spent : Int32) (o_many : Int32) (o_at : Int32) (o_isOut : Int32) (o_values : Int32) (o_failures : Int32) (o_works : Int32) (vb : Nat → Int32) (post : Int32 → Int32 → Int32 → Prop) (hw : wp_M_bit post o_length o_spent o_many o_at o_isOut o_values o_failures o_works vb) :
    gMi l D [(cI, .int)] y_M_bit b_M_bit 1 .int rm_M_bit [.ref h_o] [(h_o, .inr (3, [.ref o_weights, .ref o_tape, .int o_length, .int o_spent, .ref h_b, .int o_many, .int o_at, .int o_isOut, .ref o_row, .int o_values, .int o_failures, .int o_works])), (h_b, .inl (cI, 256, .inl vb))] (S := Int32 × Int32) (fun u => [(h_o, .inr (3, [.ref o_weights, .ref o_tape, .int o_length, .int o_spent, .ref h_b, .int o_many, .int u.1, .int u.2, .ref o_row, .int o_values, .int o_failures, .int o_works])), (h_b, .inl (cI, 256, .inl vb))]) (fun r u => post r u.1 u.2) := by
  rw [wp_M_bit] at hw
  refine gMi.of (by decide) (Nat.le_of_ble_eq_true rfl) (fun p e s m args below meth c A Q ls hx hb hml hown hts hN hK hA hP hD hret hl => ?_)
  have fx : CallFix p m c b_M_bit 1 s args gG "TapeCounterModel" := ⟨hx, hb, hml, hown, hts⟩
  have hl : lv_has ls 1 [(0, .ref h_o)] := hl
  have hS : va_S A s.heap s.heap [] := va_S.rf
  refine lv_aload_n hx hb d_M_bit_0 rfl (lv_at hl 0 rfl) ?_
  refine gGet fx hK hP 0 rfl inM rfl (k := 6) (by decide) w_233 rfl d_M_bit_1 ?_
  refine lv_aload_n hx hb d_M_bit_4 rfl (lv_at hl 0 rfl) ?_
  refine gGet fx hK hP 0 rfl inM rfl (k := 5) (by decide) w_232 rfl d_M_bit_5 ?_
  refine lv_icmp_ne (tgt := 18) hx hb d_M_bit_8 (by decide) (fun c8 => ?_) (fun c8 => ?_)
  · have hw := hw.1 c8
    refine lv_aload_n hx hb d_M_bit_18 rfl (lv_at hl 0 rfl) ?_
    refine lv_dup hx hb d_M_bit_19 rfl ?_
    refine gGet fx hK hP 0 rfl inM rfl (k := 6) (by decide) w_233 rfl d_M_bit_20 ?_
    refine lv_iconst (v := (nI 1)) hx hb d_M_bit_23 (by decide) ?_
    refine lv_iadd hx hb d_M_bit_24 ?_
    refine gPut fx hK hP hD hS 0 rfl inM tyM nmM rfl (k := 6) (by decide) w_233 rfl rfl rfl (Nat.le_of_ble_eq_true rfl) d_M_bit_25 (fun H locs hP hD hS => ?_)
    have hP : va_P D gCl [(h_o, .inr (3, [.ref o_weights, .ref o_tape, .int o_length, .int o_spent, .ref h_b, .int o_many, .int (o_at + (nI 1)), .int o_isOut, .ref o_row, .int o_values, .int o_failures, .int o_works])), (h_b, .inl (cI, 256, .inl vb))] H := hP
    have hD : va_D A [(h_o, .inr (3, [.ref o_weights, .ref o_tape, .int o_length, .int o_spent, .ref h_b, .int o_many, .int (o_at + (nI 1)), .int o_isOut, .ref o_row, .int o_values, .int o_failures, .int o_works])), (h_b, .inl (cI, 256, .inl vb))] := hD
    refine lv_aload_n hx hb d_M_bit_28 rfl (lv_at hl 0 rfl) ?_
    refine gGet fx hK hP 0 rfl inM rfl (k := 4) (by decide) w_231 rfl d_M_bit_29 ?_
    refine lv_aload_n hx hb d_M_bit_32 rfl (lv_at hl 0 rfl) ?_
    refine gGet fx hK hP 0 rfl inM rfl (k := 6) (by decide) w_233 rfl d_M_bit_33 ?_
    refine lv_iconst (v := (nI 1)) hx hb d_M_bit_36 (by decide) ?_
    refine lv_isub hx hb d_M_bit_37 ?_
    refine va_iald hx hb hK hP 1 0 rfl rfl hw.1 d_M_bit_38 ?_
    have hw := hw.2
    exact hret _ _ _ ((o_at + (nI 1)), o_isOut) _ _ hw rfl hP hD hS d_M_bit_39
  · have hw := hw.2 c8
    refine lv_aload_n hx hb d_M_bit_11 rfl (lv_at hl 0 rfl) ?_
    refine lv_iconst (v := (nI 1)) hx hb d_M_bit_12 (by decide) ?_
    refine gPut fx hK hP hD hS 0 rfl inM tyM nmM rfl (k := 7) (by decide) w_234 rfl rfl rfl (Nat.le_of_ble_eq_true rfl) d_M_bit_13 (fun H locs hP hD hS => ?_)
    have hP : va_P D gCl [(h_o, .inr (3, [.ref o_weights, .ref o_tape, .int o_length, .int o_spent, .ref h_b, .int o_many, .int o_at, .int (nI 1), .ref o_row, .int o_values, .int o_failures, .int o_works])), (h_b, .inl (cI, 256, .inl vb))] H := hP
    have hD : va_D A [(h_o, .inr (3, [.ref o_weights, .ref o_tape, .int o_length, .int o_spent, .ref h_b, .int o_many, .int o_at, .int (nI 1), .ref o_row, .int o_values, .int o_failures, .int o_works])), (h_b, .inl (cI, 256, .inl vb))] := hD
    refine lv_iconst (v := (nI 0)) hx hb d_M_bit_16 (by decide) ?_
    exact hret _ _ _ (o_at, (nI 1)) _ _ hw rfl hP hD hS d_M_bit_17
def wpF_M_plain_18 (K_2 : Int32 → Int32 → Int32 → Prop) (o_length : Int32) (o_spent : Int32) (o_many : Int32) (o_values : Int32) (o_failures : Int32) (o_works : Int32) (vb : Nat → Int32) (x1 : Int32) (K_18 : Int32 → Int32 → Int32 → Int32 → Prop) (o_at : Int32) (o_isOut : Int32) (x2 : Int32) (x3 : Int32) : Prop :=
  ((x1 ≤ x3 → K_2 o_at o_isOut x2) ∧ (¬ x1 ≤ x3 → ((¬ o_isOut = 0 → K_2 o_at o_isOut x2) ∧ (o_isOut = 0 → wp_M_bit (fun r_1 oat_2 oisOut_3 => K_18 oat_2 oisOut_3 (((nI 2) * x2) + r_1) ((nI 2) * x3)) o_length o_spent o_many o_at o_isOut o_values o_failures o_works vb))))
def wpF_M_plain_2 (post : Int32 → Int32 → Int32 → Prop) (o_length : Int32) (o_spent : Int32) (o_many : Int32) (o_values : Int32) (o_failures : Int32) (o_works : Int32) (vb : Nat → Int32) (x1 : Int32) (K_2 : Int32 → Int32 → Int32 → Prop) (o_at : Int32) (o_isOut : Int32) (x2 : Int32) : Prop :=
  ((x2 < x1 → post x2 o_at o_isOut) ∧ (¬ x2 < x1 → ((¬ o_isOut = 0 → post x2 o_at o_isOut) ∧ (o_isOut = 0 → (∃ n, gL4 (wpF_M_plain_18 K_2 o_length o_spent o_many o_values o_failures o_works vb x1) n o_at o_isOut (nI 0) (nI 1))))))
def wp_M_plain (post : Int32 → Int32 → Int32 → Prop) (o_length : Int32) (o_spent : Int32) (o_many : Int32) (o_at : Int32) (o_isOut : Int32) (o_values : Int32) (o_failures : Int32) (o_works : Int32) (vb : Nat → Int32) (x1 : Int32) : Prop :=
  (∃ n, gL3 (wpF_M_plain_2 post o_length o_spent o_many o_values o_failures o_works vb x1) n o_at o_isOut x1)
abbrev rm_M_plain : Room := { frames := 1, cells := 0, slots := 0, locals := 20 }
theorem mf_M_plain : gFV y_M_plain b_M_plain 4 (some .int) 1 := ⟨w_300, w_4, ⟨by decide, by decide, by decide +kernel⟩, w_299, ws_1_9⟩
set_option maxHeartbeats 4000000 in
set_option maxRecDepth 100000 in
theorem c_M_plain (l : Launch) (D : va_G) (cI : ClassId) (h_o : Nat) (h_b : Nat) (o_weights : Nat) (o_tape : Nat) (o_row : Nat) (o_length : Int32) (o_spent : Int32) (o_many : Int32) (o_at : Int32) (o_isOut : Int32) (o_values : Int32) (o_failures : Int32) (o_works : Int32) (vb : Nat → Int32) (x1 : Int32) (post : Int32 → Int32 → Int32 → Prop) (hw : wp_M_plain post o_length o_spent o_many o_at o_isOut o_values o_failures o_works vb x1) :
    gMi l D [(cI, .int)] y_M_plain b_M_plain 4 .int rm_M_plain [.ref h_o, .int x1] [(h_o, .inr (3, [.ref o_weights, .ref o_tape, .int o_length, .int o_spent, .ref h_b, .int o_many, .int o_at, .int o_isOut, .ref o_row, .int o_values, .int o_failures, .int o_works])), (h_b, .inl (cI, 256, .inl vb))] (S := Int32 × Int32) (fun u => [(h_o, .inr (3, [.ref o_weights, .ref o_tape, .int o_length, .int o_spent, .ref h_b, .int o_many, .int u.1, .int u.2, .ref o_row, .int o_values, .int o_failures, .int o_works])), (h_b, .inl (cI, 256, .inl vb))]) (fun r u => post r u.1 u.2) := by
  rw [wp_M_plain] at hw
  refine gMi.of (by decide) (Nat.le_of_ble_eq_true rfl) (fun p e s m args below meth c A Q ls hx hb hml hown hts hN hK hA hP hD hret hl => ?_)
  have fx : CallFix p m c b_M_plain 4 s args gG "TapeCounterModel" := ⟨hx, hb, hml, hown, hts⟩
  have hl : lv_has ls 4 [(0, .ref h_o), (1, .int x1)] := hl
  have hS : va_S A s.heap s.heap [] := va_S.rf
  refine lv_iload_n hx hb d_M_plain_0 rfl (lv_at hl 1 rfl) ?_
  refine lv_istore_n (lv' := [(2, .int x1), (0, .ref h_o), (1, .int x1)]) hx hb d_M_plain_1 rfl hl (by decide) rfl (fun ls hl => ?_)
  obtain ⟨n_2, hw⟩ := hw
  have k_2 : ∀ (n_2 : Nat) (o_at : Int32) (o_isOut : Int32) (x2 : Int32), gL3 (wpF_M_plain_2 post o_length o_spent o_many o_values o_failures o_works vb x1) n_2 o_at o_isOut x2 → ∀ (H : Heap) (locs : List Loc) (ls : Array Slot), va_P D gCl [(h_o, .inr (3, [.ref o_weights, .ref o_tape, .int o_length, .int o_spent, .ref h_b, .int o_many, .int o_at, .int o_isOut, .ref o_row, .int o_values, .int o_failures, .int o_works])), (h_b, .inl (cI, 256, .inl vb))] H → va_D A [(h_o, .inr (3, [.ref o_weights, .ref o_tape, .int o_length, .int o_spent, .ref h_b, .int o_many, .int o_at, .int o_isOut, .ref o_row, .int o_values, .int o_failures, .int o_works])), (h_b, .inl (cI, 256, .inl vb))] → va_S A s.heap H locs → lv_has ls 4 [(2, .int x2), (0, .ref h_o), (1, .int x1)] → W p l e rm_M_plain s m args below meth c H locs 0 0 Q (F0 m 2 ls []) := by
    clear hw hP hD hS hl
    intro n_2
    induction n_2 with
    | zero => exact fun _ _ _ h => h.elim
    | succ n_2 ih_2 =>
      intro o_at o_isOut x2 hw H locs ls hP hD hS hl
      have hw : wpF_M_plain_2 post o_length o_spent o_many o_values o_failures o_works vb x1 (gL3 (wpF_M_plain_2 post o_length o_spent o_many o_values o_failures o_works vb x1) n_2) o_at o_isOut x2 := hw
      rw [wpF_M_plain_2] at hw
      refine lv_iload_n hx hb d_M_plain_2 rfl (lv_at hl 0 rfl) ?_
      refine lv_iload_n hx hb d_M_plain_3 rfl (lv_at hl 2 rfl) ?_
      refine lv_icmp_lt (tgt := 49) hx hb d_M_plain_4 (by decide) (fun c4 => ?_) (fun c4 => ?_)
      · have hw := hw.1 c4
        refine lv_iload_n hx hb d_M_plain_49 rfl (lv_at hl 0 rfl) ?_
        exact hret _ _ _ (o_at, o_isOut) _ _ hw rfl hP hD hS d_M_plain_50
      · have hw := hw.2 c4
        refine lv_aload_n hx hb d_M_plain_7 rfl (lv_at hl 1 rfl) ?_
        refine gGet fx hK hP 0 rfl inM rfl (k := 7) (by decide) w_234 rfl d_M_plain_8 ?_
        refine lv_if_ne (tgt := 49) hx hb d_M_plain_11 (by decide) (fun c11 => ?_) (fun c11 => ?_)
        · have hw := hw.1 c11
          refine lv_iload_n hx hb d_M_plain_49 rfl (lv_at hl 0 rfl) ?_
          exact hret _ _ _ (o_at, o_isOut) _ _ hw rfl hP hD hS d_M_plain_50
        · have hw := hw.2 c11
          refine lv_iconst (v := (nI 0)) hx hb d_M_plain_14 (by decide) ?_
          refine lv_istore_n (lv' := [(2, .int (nI 0)), (0, .ref h_o), (1, .int x1)]) hx hb d_M_plain_15 rfl hl (by decide) rfl (fun ls hl => ?_)
          refine lv_iconst (v := (nI 1)) hx hb d_M_plain_16 (by decide) ?_
          refine lv_istore_n (lv' := [(3, .int (nI 1)), (2, .int (nI 0)), (0, .ref h_o), (1, .int x1)]) hx hb d_M_plain_17 rfl hl (by decide) rfl (fun ls hl => ?_)
          obtain ⟨n_18, hw⟩ := hw
          have k_18 : ∀ (n_18 : Nat) (o_at : Int32) (o_isOut : Int32) (x2 : Int32) (x3 : Int32), gL4 (wpF_M_plain_18 (gL3 (wpF_M_plain_2 post o_length o_spent o_many o_values o_failures o_works vb x1) n_2) o_length o_spent o_many o_values o_failures o_works vb x1) n_18 o_at o_isOut x2 x3 → ∀ (H : Heap) (locs : List Loc) (ls : Array Slot), va_P D gCl [(h_o, .inr (3, [.ref o_weights, .ref o_tape, .int o_length, .int o_spent, .ref h_b, .int o_many, .int o_at, .int o_isOut, .ref o_row, .int o_values, .int o_failures, .int o_works])), (h_b, .inl (cI, 256, .inl vb))] H → va_D A [(h_o, .inr (3, [.ref o_weights, .ref o_tape, .int o_length, .int o_spent, .ref h_b, .int o_many, .int o_at, .int o_isOut, .ref o_row, .int o_values, .int o_failures, .int o_works])), (h_b, .inl (cI, 256, .inl vb))] → va_S A s.heap H locs → lv_has ls 4 [(3, .int x3), (2, .int x2), (0, .ref h_o), (1, .int x1)] → W p l e rm_M_plain s m args below meth c H locs 0 0 Q (F0 m 18 ls []) := by
            clear hw hP hD hS hl
            intro n_18
            induction n_18 with
            | zero => exact fun _ _ _ _ h => h.elim
            | succ n_18 ih_18 =>
              intro o_at o_isOut x2 x3 hw H locs ls hP hD hS hl
              have hw : wpF_M_plain_18 (gL3 (wpF_M_plain_2 post o_length o_spent o_many o_values o_failures o_works vb x1) n_2) o_length o_spent o_many o_values o_failures o_works vb x1 (gL4 (wpF_M_plain_18 (gL3 (wpF_M_plain_2 post o_length o_spent o_many o_values o_failures o_works vb x1) n_2) o_length o_spent o_many o_values o_failures o_works vb x1) n_18) o_at o_isOut x2 x3 := hw
              rw [wpF_M_plain_18] at hw
              refine lv_iload_n hx hb d_M_plain_18 rfl (lv_at hl 0 rfl) ?_
              refine lv_iload_n hx hb d_M_plain_19 rfl (lv_at hl 3 rfl) ?_
              refine lv_icmp_ge (tgt := 46) hx hb d_M_plain_20 (by decide) (fun c20 => ?_) (fun c20 => ?_)
              · have hw := hw.1 c20
                refine lv_goto (tgt := 2) hx hb d_M_plain_46 (by decide) ?_
                exact ih_2 _ _ _ hw _ _ _ hP hD hS (lv_sub hl [1, 2, 3] rfl)
              · have hw := hw.2 c20
                refine lv_aload_n hx hb d_M_plain_23 rfl (lv_at hl 2 rfl) ?_
                refine gGet fx hK hP 0 rfl inM rfl (k := 7) (by decide) w_234 rfl d_M_plain_24 ?_
                refine lv_if_ne (tgt := 46) hx hb d_M_plain_27 (by decide) (fun c27 => ?_) (fun c27 => ?_)
                · have hw := hw.1 c27
                  refine lv_goto (tgt := 2) hx hb d_M_plain_46 (by decide) ?_
                  exact ih_2 _ _ _ hw _ _ _ hP hD hS (lv_sub hl [1, 2, 3] rfl)
                · have hw := hw.2 c27
                  refine lv_iconst (v := (nI 2)) hx hb d_M_plain_30 (by decide) ?_
                  refine lv_iload_n hx hb d_M_plain_31 rfl (lv_at hl 1 rfl) ?_
                  refine lv_imul hx hb d_M_plain_32 ?_
                  refine lv_aload_n hx hb d_M_plain_33 rfl (lv_at hl 2 rfl) ?_
                  refine g_cVi (wr := []) fx (c_M_bit l D cI h_o h_b o_weights o_tape o_row o_length o_spent o_many o_at o_isOut o_values o_failures o_works vb _ hw) mf_M_bit w_301 ⟨rfl, rfl⟩ ⟨Nat.le_of_ble_eq_true rfl, Nat.le_of_ble_eq_true rfl⟩ hN hK hA hP hD hS [0, 1] [] rfl rfl rfl rfl (by decide) 0 rfl rfl rfl rfl hl.1 (Nat.le_of_ble_eq_true rfl) d_M_plain_34 ⟨Nat.zero_le _, Nat.zero_le _⟩ (fun r_1 u H locs hw hP hD hS => ?_)
                  obtain ⟨oat_2, oisOut_3⟩ := u
                  try dsimp only at hw
                  have hP : va_P D gCl [(h_o, .inr (3, [.ref o_weights, .ref o_tape, .int o_length, .int o_spent, .ref h_b, .int o_many, .int oat_2, .int oisOut_3, .ref o_row, .int o_values, .int o_failures, .int o_works])), (h_b, .inl (cI, 256, .inl vb))] H := hP
                  have hD : va_D A [(h_o, .inr (3, [.ref o_weights, .ref o_tape, .int o_length, .int o_spent, .ref h_b, .int o_many, .int oat_2, .int oisOut_3, .ref o_row, .int o_values, .int o_failures, .int o_works])), (h_b, .inl (cI, 256, .inl vb))] := hD
                  refine lv_iadd hx hb d_M_plain_37 ?_
                  refine lv_istore_n (lv' := [(2, .int (((nI 2) * x2) + r_1)), (3, .int x3), (0, .ref h_o), (1, .int x1)]) hx hb d_M_plain_38 rfl hl (by decide) rfl (fun ls hl => ?_)
                  refine lv_iconst (v := (nI 2)) hx hb d_M_plain_39 (by decide) ?_
                  refine lv_iload_n hx hb d_M_plain_40 rfl (lv_at hl 1 rfl) ?_
                  refine lv_imul hx hb d_M_plain_41 ?_
                  refine lv_istore_n (lv' := [(3, .int ((nI 2) * x3)), (2, .int (((nI 2) * x2) + r_1)), (0, .ref h_o), (1, .int x1)]) hx hb d_M_plain_42 rfl hl (by decide) rfl (fun ls hl => ?_)
                  refine lv_goto (tgt := 18) hx hb d_M_plain_43 (by decide) ?_
                  exact ih_18 _ _ _ _ hw _ _ _ hP hD hS (lv_sub hl [0, 1, 2, 3] rfl)
          exact k_18 n_18 _ _ _ _ hw _ _ _ hP hD hS (lv_sub hl [0, 1, 2, 3] rfl)
  exact k_2 n_2 _ _ _ hw _ _ _ hP hD hS (lv_sub hl [0, 1, 2] rfl)
def wpF_M_thrifty_11 (post : Int32 → Int32 → Int32 → Prop) (K_4 : Int32 → Int32 → Int32 → Int32 → Prop) (o_length : Int32) (o_spent : Int32) (o_many : Int32) (o_values : Int32) (o_failures : Int32) (o_works : Int32) (vb : Nat → Int32) (x1 : Int32) (K_11 : Int32 → Int32 → Int32 → Int32 → Prop) (o_at : Int32) (o_isOut : Int32) (x2 : Int32) (x3 : Int32) : Prop :=
  ((x1 ≤ x2 → ((x1 ≤ x3 → K_4 o_at o_isOut (x2 - x1) (x3 - x1)) ∧ (¬ x1 ≤ x3 → post x3 o_at o_isOut))) ∧ (¬ x1 ≤ x2 → ((¬ o_isOut = 0 → ((x1 ≤ x3 → K_4 o_at o_isOut (x2 - x1) (x3 - x1)) ∧ (¬ x1 ≤ x3 → post x3 o_at o_isOut))) ∧ (o_isOut = 0 → wp_M_bit (fun r_1 oat_2 oisOut_3 => K_11 oat_2 oisOut_3 ((nI 2) * x2) (((nI 2) * x3) + r_1)) o_length o_spent o_many o_at o_isOut o_values o_failures o_works vb))))
def wpF_M_thrifty_4 (post : Int32 → Int32 → Int32 → Prop) (o_length : Int32) (o_spent : Int32) (o_many : Int32) (o_values : Int32) (o_failures : Int32) (o_works : Int32) (vb : Nat → Int32) (x1 : Int32) (K_4 : Int32 → Int32 → Int32 → Int32 → Prop) (o_at : Int32) (o_isOut : Int32) (x2 : Int32) (x3 : Int32) : Prop :=
  ((¬ o_isOut = 0 → post x3 o_at o_isOut) ∧ (o_isOut = 0 → (∃ n, gL4 (wpF_M_thrifty_11 post K_4 o_length o_spent o_many o_values o_failures o_works vb x1) n o_at o_isOut x2 x3)))
def wp_M_thrifty (post : Int32 → Int32 → Int32 → Prop) (o_length : Int32) (o_spent : Int32) (o_many : Int32) (o_at : Int32) (o_isOut : Int32) (o_values : Int32) (o_failures : Int32) (o_works : Int32) (vb : Nat → Int32) (x1 : Int32) : Prop :=
  (∃ n, gL4 (wpF_M_thrifty_4 post o_length o_spent o_many o_values o_failures o_works vb x1) n o_at o_isOut (nI 1) (nI 0))
abbrev rm_M_thrifty : Room := { frames := 1, cells := 0, slots := 0, locals := 20 }
theorem mf_M_thrifty : gFV y_M_thrifty b_M_thrifty 4 (some .int) 1 := ⟨w_308, w_4, ⟨by decide, by decide, by decide +kernel⟩, w_307, ws_1_11⟩
set_option maxHeartbeats 4000000 in
set_option maxRecDepth 100000 in
theorem c_M_thrifty (l : Launch) (D : va_G) (cI : ClassId) (h_o : Nat) (h_b : Nat) (o_weights : Nat) (o_tape : Nat) (o_row : Nat) (o_length : Int32) (o_spent : Int32) (o_many : Int32) (o_at : Int32) (o_isOut : Int32) (o_values : Int32) (o_failures : Int32) (o_works : Int32) (vb : Nat → Int32) (x1 : Int32) (post : Int32 → Int32 → Int32 → Prop) (hw : wp_M_thrifty post o_length o_spent o_many o_at o_isOut o_values o_failures o_works vb x1) :
    gMi l D [(cI, .int)] y_M_thrifty b_M_thrifty 4 .int rm_M_thrifty [.ref h_o, .int x1] [(h_o, .inr (3, [.ref o_weights, .ref o_tape, .int o_length, .int o_spent, .ref h_b, .int o_many, .int o_at, .int o_isOut, .ref o_row, .int o_values, .int o_failures, .int o_works])), (h_b, .inl (cI, 256, .inl vb))] (S := Int32 × Int32) (fun u => [(h_o, .inr (3, [.ref o_weights, .ref o_tape, .int o_length, .int o_spent, .ref h_b, .int o_many, .int u.1, .int u.2, .ref o_row, .int o_values, .int o_failures, .int o_works])), (h_b, .inl (cI, 256, .inl vb))]) (fun r u => post r u.1 u.2) := by
  rw [wp_M_thrifty] at hw
  refine gMi.of (by decide) (Nat.le_of_ble_eq_true rfl) (fun p e s m args below meth c A Q ls hx hb hml hown hts hN hK hA hP hD hret hl => ?_)
  have fx : CallFix p m c b_M_thrifty 4 s args gG "TapeCounterModel" := ⟨hx, hb, hml, hown, hts⟩
  have hl : lv_has ls 4 [(0, .ref h_o), (1, .int x1)] := hl
  have hS : va_S A s.heap s.heap [] := va_S.rf
  refine lv_iconst (v := (nI 1)) hx hb d_M_thrifty_0 (by decide) ?_
  refine lv_istore_n (lv' := [(2, .int (nI 1)), (0, .ref h_o), (1, .int x1)]) hx hb d_M_thrifty_1 rfl hl (by decide) rfl (fun ls hl => ?_)
  refine lv_iconst (v := (nI 0)) hx hb d_M_thrifty_2 (by decide) ?_
  refine lv_istore_n (lv' := [(3, .int (nI 0)), (2, .int (nI 1)), (0, .ref h_o), (1, .int x1)]) hx hb d_M_thrifty_3 rfl hl (by decide) rfl (fun ls hl => ?_)
  obtain ⟨n_4, hw⟩ := hw
  have k_4 : ∀ (n_4 : Nat) (o_at : Int32) (o_isOut : Int32) (x2 : Int32) (x3 : Int32), gL4 (wpF_M_thrifty_4 post o_length o_spent o_many o_values o_failures o_works vb x1) n_4 o_at o_isOut x2 x3 → ∀ (H : Heap) (locs : List Loc) (ls : Array Slot), va_P D gCl [(h_o, .inr (3, [.ref o_weights, .ref o_tape, .int o_length, .int o_spent, .ref h_b, .int o_many, .int o_at, .int o_isOut, .ref o_row, .int o_values, .int o_failures, .int o_works])), (h_b, .inl (cI, 256, .inl vb))] H → va_D A [(h_o, .inr (3, [.ref o_weights, .ref o_tape, .int o_length, .int o_spent, .ref h_b, .int o_many, .int o_at, .int o_isOut, .ref o_row, .int o_values, .int o_failures, .int o_works])), (h_b, .inl (cI, 256, .inl vb))] → va_S A s.heap H locs → lv_has ls 4 [(3, .int x3), (2, .int x2), (0, .ref h_o), (1, .int x1)] → W p l e rm_M_thrifty s m args below meth c H locs 0 0 Q (F0 m 4 ls []) := by
    clear hw hP hD hS hl
    intro n_4
    induction n_4 with
    | zero => exact fun _ _ _ _ h => h.elim
    | succ n_4 ih_4 =>
      intro o_at o_isOut x2 x3 hw H locs ls hP hD hS hl
      have hw : wpF_M_thrifty_4 post o_length o_spent o_many o_values o_failures o_works vb x1 (gL4 (wpF_M_thrifty_4 post o_length o_spent o_many o_values o_failures o_works vb x1) n_4) o_at o_isOut x2 x3 := hw
      rw [wpF_M_thrifty_4] at hw
      refine lv_aload_n hx hb d_M_thrifty_4 rfl (lv_at hl 2 rfl) ?_
      refine gGet fx hK hP 0 rfl inM rfl (k := 7) (by decide) w_234 rfl d_M_thrifty_5 ?_
      refine lv_if_ne (tgt := 57) hx hb d_M_thrifty_8 (by decide) (fun c8 => ?_) (fun c8 => ?_)
      · have hw := hw.1 c8
        refine lv_iload_n hx hb d_M_thrifty_57 rfl (lv_at hl 0 rfl) ?_
        exact hret _ _ _ (o_at, o_isOut) _ _ hw rfl hP hD hS d_M_thrifty_58
      · have hw := hw.2 c8
        obtain ⟨n_11, hw⟩ := hw
        have k_11 : ∀ (n_11 : Nat) (o_at : Int32) (o_isOut : Int32) (x2 : Int32) (x3 : Int32), gL4 (wpF_M_thrifty_11 post (gL4 (wpF_M_thrifty_4 post o_length o_spent o_many o_values o_failures o_works vb x1) n_4) o_length o_spent o_many o_values o_failures o_works vb x1) n_11 o_at o_isOut x2 x3 → ∀ (H : Heap) (locs : List Loc) (ls : Array Slot), va_P D gCl [(h_o, .inr (3, [.ref o_weights, .ref o_tape, .int o_length, .int o_spent, .ref h_b, .int o_many, .int o_at, .int o_isOut, .ref o_row, .int o_values, .int o_failures, .int o_works])), (h_b, .inl (cI, 256, .inl vb))] H → va_D A [(h_o, .inr (3, [.ref o_weights, .ref o_tape, .int o_length, .int o_spent, .ref h_b, .int o_many, .int o_at, .int o_isOut, .ref o_row, .int o_values, .int o_failures, .int o_works])), (h_b, .inl (cI, 256, .inl vb))] → va_S A s.heap H locs → lv_has ls 4 [(3, .int x3), (2, .int x2), (0, .ref h_o), (1, .int x1)] → W p l e rm_M_thrifty s m args below meth c H locs 0 0 Q (F0 m 11 ls []) := by
          clear hw hP hD hS hl
          intro n_11
          induction n_11 with
          | zero => exact fun _ _ _ _ h => h.elim
          | succ n_11 ih_11 =>
            intro o_at o_isOut x2 x3 hw H locs ls hP hD hS hl
            have hw : wpF_M_thrifty_11 post (gL4 (wpF_M_thrifty_4 post o_length o_spent o_many o_values o_failures o_works vb x1) n_4) o_length o_spent o_many o_values o_failures o_works vb x1 (gL4 (wpF_M_thrifty_11 post (gL4 (wpF_M_thrifty_4 post o_length o_spent o_many o_values o_failures o_works vb x1) n_4) o_length o_spent o_many o_values o_failures o_works vb x1) n_11) o_at o_isOut x2 x3 := hw
            rw [wpF_M_thrifty_11] at hw
            refine lv_iload_n hx hb d_M_thrifty_11 rfl (lv_at hl 1 rfl) ?_
            refine lv_iload_n hx hb d_M_thrifty_12 rfl (lv_at hl 3 rfl) ?_
            refine lv_icmp_ge (tgt := 39) hx hb d_M_thrifty_13 (by decide) (fun c13 => ?_) (fun c13 => ?_)
            · have hw := hw.1 c13
              refine lv_iload_n hx hb d_M_thrifty_39 rfl (lv_at hl 0 rfl) ?_
              refine lv_iload_n hx hb d_M_thrifty_40 rfl (lv_at hl 3 rfl) ?_
              refine lv_icmp_ge (tgt := 46) hx hb d_M_thrifty_41 (by decide) (fun c41 => ?_) (fun c41 => ?_)
              · have hw := hw.1 c41
                refine lv_iload_n hx hb d_M_thrifty_46 rfl (lv_at hl 1 rfl) ?_
                refine lv_iload_n hx hb d_M_thrifty_47 rfl (lv_at hl 3 rfl) ?_
                refine lv_isub hx hb d_M_thrifty_48 ?_
                refine lv_istore_n (lv' := [(2, .int (x2 - x1)), (3, .int x3), (0, .ref h_o), (1, .int x1)]) hx hb d_M_thrifty_49 rfl hl (by decide) rfl (fun ls hl => ?_)
                refine lv_iload_n hx hb d_M_thrifty_50 rfl (lv_at hl 1 rfl) ?_
                refine lv_iload_n hx hb d_M_thrifty_51 rfl (lv_at hl 3 rfl) ?_
                refine lv_isub hx hb d_M_thrifty_52 ?_
                refine lv_istore_n (lv' := [(3, .int (x3 - x1)), (2, .int (x2 - x1)), (0, .ref h_o), (1, .int x1)]) hx hb d_M_thrifty_53 rfl hl (by decide) rfl (fun ls hl => ?_)
                refine lv_goto (tgt := 4) hx hb d_M_thrifty_54 (by decide) ?_
                exact ih_4 _ _ _ _ hw _ _ _ hP hD hS (lv_sub hl [0, 1, 2, 3] rfl)
              · have hw := hw.2 c41
                refine lv_iload_n hx hb d_M_thrifty_44 rfl (lv_at hl 0 rfl) ?_
                exact hret _ _ _ (o_at, o_isOut) _ _ hw rfl hP hD hS d_M_thrifty_45
            · have hw := hw.2 c13
              refine lv_aload_n hx hb d_M_thrifty_16 rfl (lv_at hl 2 rfl) ?_
              refine gGet fx hK hP 0 rfl inM rfl (k := 7) (by decide) w_234 rfl d_M_thrifty_17 ?_
              refine lv_if_ne (tgt := 39) hx hb d_M_thrifty_20 (by decide) (fun c20 => ?_) (fun c20 => ?_)
              · have hw := hw.1 c20
                refine lv_iload_n hx hb d_M_thrifty_39 rfl (lv_at hl 0 rfl) ?_
                refine lv_iload_n hx hb d_M_thrifty_40 rfl (lv_at hl 3 rfl) ?_
                refine lv_icmp_ge (tgt := 46) hx hb d_M_thrifty_41 (by decide) (fun c41 => ?_) (fun c41 => ?_)
                · have hw := hw.1 c41
                  refine lv_iload_n hx hb d_M_thrifty_46 rfl (lv_at hl 1 rfl) ?_
                  refine lv_iload_n hx hb d_M_thrifty_47 rfl (lv_at hl 3 rfl) ?_
                  refine lv_isub hx hb d_M_thrifty_48 ?_
                  refine lv_istore_n (lv' := [(2, .int (x2 - x1)), (3, .int x3), (0, .ref h_o), (1, .int x1)]) hx hb d_M_thrifty_49 rfl hl (by decide) rfl (fun ls hl => ?_)
                  refine lv_iload_n hx hb d_M_thrifty_50 rfl (lv_at hl 1 rfl) ?_
                  refine lv_iload_n hx hb d_M_thrifty_51 rfl (lv_at hl 3 rfl) ?_
                  refine lv_isub hx hb d_M_thrifty_52 ?_
                  refine lv_istore_n (lv' := [(3, .int (x3 - x1)), (2, .int (x2 - x1)), (0, .ref h_o), (1, .int x1)]) hx hb d_M_thrifty_53 rfl hl (by decide) rfl (fun ls hl => ?_)
                  refine lv_goto (tgt := 4) hx hb d_M_thrifty_54 (by decide) ?_
                  exact ih_4 _ _ _ _ hw _ _ _ hP hD hS (lv_sub hl [0, 1, 2, 3] rfl)
                · have hw := hw.2 c41
                  refine lv_iload_n hx hb d_M_thrifty_44 rfl (lv_at hl 0 rfl) ?_
                  exact hret _ _ _ (o_at, o_isOut) _ _ hw rfl hP hD hS d_M_thrifty_45
              · have hw := hw.2 c20
                refine lv_iconst (v := (nI 2)) hx hb d_M_thrifty_23 (by decide) ?_
                refine lv_iload_n hx hb d_M_thrifty_24 rfl (lv_at hl 1 rfl) ?_
                refine lv_imul hx hb d_M_thrifty_25 ?_
                refine lv_istore_n (lv' := [(2, .int ((nI 2) * x2)), (3, .int x3), (0, .ref h_o), (1, .int x1)]) hx hb d_M_thrifty_26 rfl hl (by decide) rfl (fun ls hl => ?_)
                refine lv_iconst (v := (nI 2)) hx hb d_M_thrifty_27 (by decide) ?_
                refine lv_iload_n hx hb d_M_thrifty_28 rfl (lv_at hl 1 rfl) ?_
                refine lv_imul hx hb d_M_thrifty_29 ?_
                refine lv_aload_n hx hb d_M_thrifty_30 rfl (lv_at hl 2 rfl) ?_
                refine g_cVi (wr := []) fx (c_M_bit l D cI h_o h_b o_weights o_tape o_row o_length o_spent o_many o_at o_isOut o_values o_failures o_works vb _ hw) mf_M_bit w_301 ⟨rfl, rfl⟩ ⟨Nat.le_of_ble_eq_true rfl, Nat.le_of_ble_eq_true rfl⟩ hN hK hA hP hD hS [0, 1] [] rfl rfl rfl rfl (by decide) 0 rfl rfl rfl rfl hl.1 (Nat.le_of_ble_eq_true rfl) d_M_thrifty_31 ⟨Nat.zero_le _, Nat.zero_le _⟩ (fun r_1 u H locs hw hP hD hS => ?_)
                obtain ⟨oat_2, oisOut_3⟩ := u
                try dsimp only at hw
                have hP : va_P D gCl [(h_o, .inr (3, [.ref o_weights, .ref o_tape, .int o_length, .int o_spent, .ref h_b, .int o_many, .int oat_2, .int oisOut_3, .ref o_row, .int o_values, .int o_failures, .int o_works])), (h_b, .inl (cI, 256, .inl vb))] H := hP
                have hD : va_D A [(h_o, .inr (3, [.ref o_weights, .ref o_tape, .int o_length, .int o_spent, .ref h_b, .int o_many, .int oat_2, .int oisOut_3, .ref o_row, .int o_values, .int o_failures, .int o_works])), (h_b, .inl (cI, 256, .inl vb))] := hD
                refine lv_iadd hx hb d_M_thrifty_34 ?_
                refine lv_istore_n (lv' := [(3, .int (((nI 2) * x3) + r_1)), (2, .int ((nI 2) * x2)), (0, .ref h_o), (1, .int x1)]) hx hb d_M_thrifty_35 rfl hl (by decide) rfl (fun ls hl => ?_)
                refine lv_goto (tgt := 11) hx hb d_M_thrifty_36 (by decide) ?_
                exact ih_11 _ _ _ _ hw _ _ _ hP hD hS (lv_sub hl [0, 1, 2, 3] rfl)
        exact k_11 n_11 _ _ _ _ hw _ _ _ hP hD hS (lv_sub hl [0, 1, 2, 3] rfl)
  exact k_4 n_4 _ _ _ _ hw _ _ _ hP hD hS (lv_sub hl [0, 1, 2, 3] rfl)
def wpF_M_coin_2 (post : Int32 → Int32 → Int32 → Prop) (o_length : Int32) (o_spent : Int32) (o_many : Int32) (o_values : Int32) (o_failures : Int32) (o_works : Int32) (vb : Nat → Int32) (x2 : Int32) (K_2 : Int32 → Int32 → Int32 → Prop) (o_at : Int32) (o_isOut : Int32) (x3 : Int32) : Prop :=
  ((x3 ≤ 0 → ((¬ x3 = 0 → post (nI 1) o_at o_isOut) ∧ (x3 = 0 → post (nI 0) o_at o_isOut))) ∧ (¬ x3 ≤ 0 → ((x2 ≤ x3 → ((¬ x3 = 0 → post (nI 1) o_at o_isOut) ∧ (x3 = 0 → post (nI 0) o_at o_isOut))) ∧ (¬ x2 ≤ x3 → ((¬ o_isOut = 0 → ((¬ x3 = 0 → post (nI 1) o_at o_isOut) ∧ (x3 = 0 → post (nI 0) o_at o_isOut))) ∧ (o_isOut = 0 → wp_M_bit (fun r_1 oat_2 oisOut_3 => ((((nI 2) * x3) < x2 → ((((nI 2) * x3) < x2 → ((r_1 = (nI 0) → K_2 oat_2 oisOut_3 ((nI 2) * x3)) ∧ (¬ r_1 = (nI 0) → (((nI 0) ≤ r_1 → post (nI 0) oat_2 oisOut_3) ∧ (¬ (nI 0) ≤ r_1 → post (nI 1) oat_2 oisOut_3))))) ∧ (¬ ((nI 2) * x3) < x2 → ((r_1 = (nI 0) → K_2 oat_2 oisOut_3 (((nI 2) * x3) - x2)) ∧ (¬ r_1 = (nI 0) → (((nI 0) ≤ r_1 → post (nI 0) oat_2 oisOut_3) ∧ (¬ (nI 0) ≤ r_1 → post (nI 1) oat_2 oisOut_3))))))) ∧ (¬ ((nI 2) * x3) < x2 → ((((nI 2) * x3) < x2 → ((r_1 = (nI 1) → K_2 oat_2 oisOut_3 ((nI 2) * x3)) ∧ (¬ r_1 = (nI 1) → (((nI 1) ≤ r_1 → post (nI 0) oat_2 oisOut_3) ∧ (¬ (nI 1) ≤ r_1 → post (nI 1) oat_2 oisOut_3))))) ∧ (¬ ((nI 2) * x3) < x2 → ((r_1 = (nI 1) → K_2 oat_2 oisOut_3 (((nI 2) * x3) - x2)) ∧ (¬ r_1 = (nI 1) → (((nI 1) ≤ r_1 → post (nI 0) oat_2 oisOut_3) ∧ (¬ (nI 1) ≤ r_1 → post (nI 1) oat_2 oisOut_3))))))))) o_length o_spent o_many o_at o_isOut o_values o_failures o_works vb))))))
def wp_M_coin (post : Int32 → Int32 → Int32 → Prop) (o_length : Int32) (o_spent : Int32) (o_many : Int32) (o_at : Int32) (o_isOut : Int32) (o_values : Int32) (o_failures : Int32) (o_works : Int32) (vb : Nat → Int32) (x1 : Int32) (x2 : Int32) : Prop :=
  (∃ n, gL3 (wpF_M_coin_2 post o_length o_spent o_many o_values o_failures o_works vb x2) n o_at o_isOut x1)
abbrev rm_M_coin : Room := { frames := 1, cells := 0, slots := 0, locals := 20 }
theorem mf_M_coin : gFV y_M_coin b_M_coin 6 (some .int) 2 := ⟨w_312, w_4, ⟨by decide, by decide, by decide +kernel⟩, w_311, ws_1_12⟩
set_option maxHeartbeats 4000000 in
set_option maxRecDepth 100000 in
theorem c_M_coin (l : Launch) (D : va_G) (cI : ClassId) (h_o : Nat) (h_b : Nat) (o_weights : Nat) (o_tape : Nat) (o_row : Nat) (o_length : Int32) (o_spent : Int32) (o_many : Int32) (o_at : Int32) (o_isOut : Int32) (o_values : Int32) (o_failures : Int32) (o_works : Int32) (vb : Nat → Int32) (x1 : Int32) (x2 : Int32) (post : Int32 → Int32 → Int32 → Prop) (hw : wp_M_coin post o_length o_spent o_many o_at o_isOut o_values o_failures o_works vb x1 x2) :
    gMi l D [(cI, .int)] y_M_coin b_M_coin 6 .int rm_M_coin [.ref h_o, .int x1, .int x2] [(h_o, .inr (3, [.ref o_weights, .ref o_tape, .int o_length, .int o_spent, .ref h_b, .int o_many, .int o_at, .int o_isOut, .ref o_row, .int o_values, .int o_failures, .int o_works])), (h_b, .inl (cI, 256, .inl vb))] (S := Int32 × Int32) (fun u => [(h_o, .inr (3, [.ref o_weights, .ref o_tape, .int o_length, .int o_spent, .ref h_b, .int o_many, .int u.1, .int u.2, .ref o_row, .int o_values, .int o_failures, .int o_works])), (h_b, .inl (cI, 256, .inl vb))]) (fun r u => post r u.1 u.2) := by
  rw [wp_M_coin] at hw
  refine gMi.of (by decide) (Nat.le_of_ble_eq_true rfl) (fun p e s m args below meth c A Q ls hx hb hml hown hts hN hK hA hP hD hret hl => ?_)
  have fx : CallFix p m c b_M_coin 6 s args gG "TapeCounterModel" := ⟨hx, hb, hml, hown, hts⟩
  have hl : lv_has ls 6 [(0, .ref h_o), (1, .int x1), (2, .int x2)] := hl
  have hS : va_S A s.heap s.heap [] := va_S.rf
  refine lv_iload_n hx hb d_M_coin_0 rfl (lv_at hl 1 rfl) ?_
  refine lv_istore_n (lv' := [(3, .int x1), (0, .ref h_o), (1, .int x1), (2, .int x2)]) hx hb d_M_coin_1 rfl hl (by decide) rfl (fun ls hl => ?_)
  obtain ⟨n_2, hw⟩ := hw
  have k_2 : ∀ (n_2 : Nat) (o_at : Int32) (o_isOut : Int32) (x3 : Int32), gL3 (wpF_M_coin_2 post o_length o_spent o_many o_values o_failures o_works vb x2) n_2 o_at o_isOut x3 → ∀ (H : Heap) (locs : List Loc) (ls : Array Slot), va_P D gCl [(h_o, .inr (3, [.ref o_weights, .ref o_tape, .int o_length, .int o_spent, .ref h_b, .int o_many, .int o_at, .int o_isOut, .ref o_row, .int o_values, .int o_failures, .int o_works])), (h_b, .inl (cI, 256, .inl vb))] H → va_D A [(h_o, .inr (3, [.ref o_weights, .ref o_tape, .int o_length, .int o_spent, .ref h_b, .int o_many, .int o_at, .int o_isOut, .ref o_row, .int o_values, .int o_failures, .int o_works])), (h_b, .inl (cI, 256, .inl vb))] → va_S A s.heap H locs → lv_has ls 6 [(3, .int x3), (0, .ref h_o), (2, .int x2)] → W p l e rm_M_coin s m args below meth c H locs 0 0 Q (F0 m 2 ls []) := by
    clear hw hP hD hS hl
    intro n_2
    induction n_2 with
    | zero => exact fun _ _ _ h => h.elim
    | succ n_2 ih_2 =>
      intro o_at o_isOut x3 hw H locs ls hP hD hS hl
      have hw : wpF_M_coin_2 post o_length o_spent o_many o_values o_failures o_works vb x2 (gL3 (wpF_M_coin_2 post o_length o_spent o_many o_values o_failures o_works vb x2) n_2) o_at o_isOut x3 := hw
      rw [wpF_M_coin_2] at hw
      refine lv_iload_n hx hb d_M_coin_2 rfl (lv_at hl 0 rfl) ?_
      refine lv_if_le (tgt := 76) hx hb d_M_coin_3 (by decide) (fun c3 => ?_) (fun c3 => ?_)
      · have hw := hw.1 c3
        refine lv_iload_n hx hb d_M_coin_76 rfl (lv_at hl 0 rfl) ?_
        refine lv_if_ne (tgt := 84) hx hb d_M_coin_77 (by decide) (fun c77 => ?_) (fun c77 => ?_)
        · have hw := hw.1 c77
          refine lv_iconst (v := (nI 1)) hx hb d_M_coin_84 (by decide) ?_
          exact hret _ _ _ (o_at, o_isOut) _ _ hw rfl hP hD hS d_M_coin_85
        · have hw := hw.2 c77
          refine lv_iconst (v := (nI 0)) hx hb d_M_coin_80 (by decide) ?_
          refine lv_goto (tgt := 85) hx hb d_M_coin_81 (by decide) ?_
          exact hret _ _ _ (o_at, o_isOut) _ _ hw rfl hP hD hS d_M_coin_85
      · have hw := hw.2 c3
        refine lv_iload_n hx hb d_M_coin_6 rfl (lv_at hl 0 rfl) ?_
        refine lv_iload_n hx hb d_M_coin_7 rfl (lv_at hl 2 rfl) ?_
        refine lv_icmp_ge (tgt := 76) hx hb d_M_coin_8 (by decide) (fun c8 => ?_) (fun c8 => ?_)
        · have hw := hw.1 c8
          refine lv_iload_n hx hb d_M_coin_76 rfl (lv_at hl 0 rfl) ?_
          refine lv_if_ne (tgt := 84) hx hb d_M_coin_77 (by decide) (fun c77 => ?_) (fun c77 => ?_)
          · have hw := hw.1 c77
            refine lv_iconst (v := (nI 1)) hx hb d_M_coin_84 (by decide) ?_
            exact hret _ _ _ (o_at, o_isOut) _ _ hw rfl hP hD hS d_M_coin_85
          · have hw := hw.2 c77
            refine lv_iconst (v := (nI 0)) hx hb d_M_coin_80 (by decide) ?_
            refine lv_goto (tgt := 85) hx hb d_M_coin_81 (by decide) ?_
            exact hret _ _ _ (o_at, o_isOut) _ _ hw rfl hP hD hS d_M_coin_85
        · have hw := hw.2 c8
          refine lv_aload_n hx hb d_M_coin_11 rfl (lv_at hl 1 rfl) ?_
          refine gGet fx hK hP 0 rfl inM rfl (k := 7) (by decide) w_234 rfl d_M_coin_12 ?_
          refine lv_if_ne (tgt := 76) hx hb d_M_coin_15 (by decide) (fun c15 => ?_) (fun c15 => ?_)
          · have hw := hw.1 c15
            refine lv_iload_n hx hb d_M_coin_76 rfl (lv_at hl 0 rfl) ?_
            refine lv_if_ne (tgt := 84) hx hb d_M_coin_77 (by decide) (fun c77 => ?_) (fun c77 => ?_)
            · have hw := hw.1 c77
              refine lv_iconst (v := (nI 1)) hx hb d_M_coin_84 (by decide) ?_
              exact hret _ _ _ (o_at, o_isOut) _ _ hw rfl hP hD hS d_M_coin_85
            · have hw := hw.2 c77
              refine lv_iconst (v := (nI 0)) hx hb d_M_coin_80 (by decide) ?_
              refine lv_goto (tgt := 85) hx hb d_M_coin_81 (by decide) ?_
              exact hret _ _ _ (o_at, o_isOut) _ _ hw rfl hP hD hS d_M_coin_85
          · have hw := hw.2 c15
            refine lv_aload_n hx hb d_M_coin_18 rfl (lv_at hl 1 rfl) ?_
            refine g_cVi (wr := []) fx (c_M_bit l D cI h_o h_b o_weights o_tape o_row o_length o_spent o_many o_at o_isOut o_values o_failures o_works vb _ hw) mf_M_bit w_301 ⟨rfl, rfl⟩ ⟨Nat.le_of_ble_eq_true rfl, Nat.le_of_ble_eq_true rfl⟩ hN hK hA hP hD hS [0, 1] [] rfl rfl rfl rfl (by decide) 0 rfl rfl rfl rfl hl.1 (Nat.le_of_ble_eq_true rfl) d_M_coin_19 ⟨Nat.zero_le _, Nat.zero_le _⟩ (fun r_1 u H locs hw hP hD hS => ?_)
            obtain ⟨oat_2, oisOut_3⟩ := u
            try dsimp only at hw
            have hP : va_P D gCl [(h_o, .inr (3, [.ref o_weights, .ref o_tape, .int o_length, .int o_spent, .ref h_b, .int o_many, .int oat_2, .int oisOut_3, .ref o_row, .int o_values, .int o_failures, .int o_works])), (h_b, .inl (cI, 256, .inl vb))] H := hP
            have hD : va_D A [(h_o, .inr (3, [.ref o_weights, .ref o_tape, .int o_length, .int o_spent, .ref h_b, .int o_many, .int oat_2, .int oisOut_3, .ref o_row, .int o_values, .int o_failures, .int o_works])), (h_b, .inl (cI, 256, .inl vb))] := hD
            refine lv_istore (lv' := [(4, .int r_1), (3, .int x3), (0, .ref h_o), (2, .int x2)]) hx hb d_M_coin_22 hl (by decide) rfl (fun ls hl => ?_)
            refine lv_iconst (v := (nI 2)) hx hb d_M_coin_24 (by decide) ?_
            refine lv_iload_n hx hb d_M_coin_25 rfl (lv_at hl 1 rfl) ?_
            refine lv_imul hx hb d_M_coin_26 ?_
            refine lv_istore_n (lv' := [(3, .int ((nI 2) * x3)), (4, .int r_1), (0, .ref h_o), (2, .int x2)]) hx hb d_M_coin_27 rfl hl (by decide) rfl (fun ls hl => ?_)
            refine lv_iload_n hx hb d_M_coin_28 rfl (lv_at hl 0 rfl) ?_
            refine lv_iload_n hx hb d_M_coin_29 rfl (lv_at hl 3 rfl) ?_
            refine lv_icmp_lt (tgt := 37) hx hb d_M_coin_30 (by decide) (fun c30 => ?_) (fun c30 => ?_)
            · have hw := hw.1 c30
              refine lv_iconst (v := (nI 0)) hx hb d_M_coin_37 (by decide) ?_
              refine lv_istore (lv' := [(5, .int (nI 0)), (3, .int ((nI 2) * x3)), (4, .int r_1), (0, .ref h_o), (2, .int x2)]) hx hb d_M_coin_38 hl (by decide) rfl (fun ls hl => ?_)
              refine lv_iload_n hx hb d_M_coin_40 rfl (lv_at hl 1 rfl) ?_
              refine lv_iload_n hx hb d_M_coin_41 rfl (lv_at hl 4 rfl) ?_
              refine lv_icmp_lt (tgt := 51) hx hb d_M_coin_42 (by decide) (fun c42 => ?_) (fun c42 => ?_)
              · have hw := hw.1 c42
                refine lv_iload_n hx hb d_M_coin_51 rfl (lv_at hl 1 rfl) ?_
                refine lv_istore_n (lv' := [(3, .int ((nI 2) * x3)), (5, .int (nI 0)), (4, .int r_1), (0, .ref h_o), (2, .int x2)]) hx hb d_M_coin_52 rfl hl (by decide) rfl (fun ls hl => ?_)
                refine lv_iload hx hb d_M_coin_53 (lv_at hl 2 rfl) ?_
                refine lv_iload hx hb d_M_coin_55 (lv_at hl 1 rfl) ?_
                refine lv_icmp_eq (tgt := 73) hx hb d_M_coin_57 (by decide) (fun c57 => ?_) (fun c57 => ?_)
                · have hw := hw.1 c57
                  refine lv_goto (tgt := 2) hx hb d_M_coin_73 (by decide) ?_
                  exact ih_2 _ _ _ hw _ _ _ hP hD hS (lv_sub hl [0, 3, 4] rfl)
                · have hw := hw.2 c57
                  refine lv_iload hx hb d_M_coin_60 (lv_at hl 2 rfl) ?_
                  refine lv_iload hx hb d_M_coin_62 (lv_at hl 1 rfl) ?_
                  refine lv_icmp_ge (tgt := 71) hx hb d_M_coin_64 (by decide) (fun c64 => ?_) (fun c64 => ?_)
                  · have hw := hw.1 c64
                    refine lv_iconst (v := (nI 0)) hx hb d_M_coin_71 (by decide) ?_
                    exact hret _ _ _ (oat_2, oisOut_3) _ _ hw rfl hP hD hS d_M_coin_72
                  · have hw := hw.2 c64
                    refine lv_iconst (v := (nI 1)) hx hb d_M_coin_67 (by decide) ?_
                    refine lv_goto (tgt := 72) hx hb d_M_coin_68 (by decide) ?_
                    exact hret _ _ _ (oat_2, oisOut_3) _ _ hw rfl hP hD hS d_M_coin_72
              · have hw := hw.2 c42
                refine lv_iload_n hx hb d_M_coin_45 rfl (lv_at hl 1 rfl) ?_
                refine lv_iload_n hx hb d_M_coin_46 rfl (lv_at hl 4 rfl) ?_
                refine lv_isub hx hb d_M_coin_47 ?_
                refine lv_goto (tgt := 52) hx hb d_M_coin_48 (by decide) ?_
                refine lv_istore_n (lv' := [(3, .int (((nI 2) * x3) - x2)), (5, .int (nI 0)), (4, .int r_1), (0, .ref h_o), (2, .int x2)]) hx hb d_M_coin_52 rfl hl (by decide) rfl (fun ls hl => ?_)
                refine lv_iload hx hb d_M_coin_53 (lv_at hl 2 rfl) ?_
                refine lv_iload hx hb d_M_coin_55 (lv_at hl 1 rfl) ?_
                refine lv_icmp_eq (tgt := 73) hx hb d_M_coin_57 (by decide) (fun c57 => ?_) (fun c57 => ?_)
                · have hw := hw.1 c57
                  refine lv_goto (tgt := 2) hx hb d_M_coin_73 (by decide) ?_
                  exact ih_2 _ _ _ hw _ _ _ hP hD hS (lv_sub hl [0, 3, 4] rfl)
                · have hw := hw.2 c57
                  refine lv_iload hx hb d_M_coin_60 (lv_at hl 2 rfl) ?_
                  refine lv_iload hx hb d_M_coin_62 (lv_at hl 1 rfl) ?_
                  refine lv_icmp_ge (tgt := 71) hx hb d_M_coin_64 (by decide) (fun c64 => ?_) (fun c64 => ?_)
                  · have hw := hw.1 c64
                    refine lv_iconst (v := (nI 0)) hx hb d_M_coin_71 (by decide) ?_
                    exact hret _ _ _ (oat_2, oisOut_3) _ _ hw rfl hP hD hS d_M_coin_72
                  · have hw := hw.2 c64
                    refine lv_iconst (v := (nI 1)) hx hb d_M_coin_67 (by decide) ?_
                    refine lv_goto (tgt := 72) hx hb d_M_coin_68 (by decide) ?_
                    exact hret _ _ _ (oat_2, oisOut_3) _ _ hw rfl hP hD hS d_M_coin_72
            · have hw := hw.2 c30
              refine lv_iconst (v := (nI 1)) hx hb d_M_coin_33 (by decide) ?_
              refine lv_goto (tgt := 38) hx hb d_M_coin_34 (by decide) ?_
              refine lv_istore (lv' := [(5, .int (nI 1)), (3, .int ((nI 2) * x3)), (4, .int r_1), (0, .ref h_o), (2, .int x2)]) hx hb d_M_coin_38 hl (by decide) rfl (fun ls hl => ?_)
              refine lv_iload_n hx hb d_M_coin_40 rfl (lv_at hl 1 rfl) ?_
              refine lv_iload_n hx hb d_M_coin_41 rfl (lv_at hl 4 rfl) ?_
              refine lv_icmp_lt (tgt := 51) hx hb d_M_coin_42 (by decide) (fun c42 => ?_) (fun c42 => ?_)
              · have hw := hw.1 c42
                refine lv_iload_n hx hb d_M_coin_51 rfl (lv_at hl 1 rfl) ?_
                refine lv_istore_n (lv' := [(3, .int ((nI 2) * x3)), (5, .int (nI 1)), (4, .int r_1), (0, .ref h_o), (2, .int x2)]) hx hb d_M_coin_52 rfl hl (by decide) rfl (fun ls hl => ?_)
                refine lv_iload hx hb d_M_coin_53 (lv_at hl 2 rfl) ?_
                refine lv_iload hx hb d_M_coin_55 (lv_at hl 1 rfl) ?_
                refine lv_icmp_eq (tgt := 73) hx hb d_M_coin_57 (by decide) (fun c57 => ?_) (fun c57 => ?_)
                · have hw := hw.1 c57
                  refine lv_goto (tgt := 2) hx hb d_M_coin_73 (by decide) ?_
                  exact ih_2 _ _ _ hw _ _ _ hP hD hS (lv_sub hl [0, 3, 4] rfl)
                · have hw := hw.2 c57
                  refine lv_iload hx hb d_M_coin_60 (lv_at hl 2 rfl) ?_
                  refine lv_iload hx hb d_M_coin_62 (lv_at hl 1 rfl) ?_
                  refine lv_icmp_ge (tgt := 71) hx hb d_M_coin_64 (by decide) (fun c64 => ?_) (fun c64 => ?_)
                  · have hw := hw.1 c64
                    refine lv_iconst (v := (nI 0)) hx hb d_M_coin_71 (by decide) ?_
                    exact hret _ _ _ (oat_2, oisOut_3) _ _ hw rfl hP hD hS d_M_coin_72
                  · have hw := hw.2 c64
                    refine lv_iconst (v := (nI 1)) hx hb d_M_coin_67 (by decide) ?_
                    refine lv_goto (tgt := 72) hx hb d_M_coin_68 (by decide) ?_
                    exact hret _ _ _ (oat_2, oisOut_3) _ _ hw rfl hP hD hS d_M_coin_72
              · have hw := hw.2 c42
                refine lv_iload_n hx hb d_M_coin_45 rfl (lv_at hl 1 rfl) ?_
                refine lv_iload_n hx hb d_M_coin_46 rfl (lv_at hl 4 rfl) ?_
                refine lv_isub hx hb d_M_coin_47 ?_
                refine lv_goto (tgt := 52) hx hb d_M_coin_48 (by decide) ?_
                refine lv_istore_n (lv' := [(3, .int (((nI 2) * x3) - x2)), (5, .int (nI 1)), (4, .int r_1), (0, .ref h_o), (2, .int x2)]) hx hb d_M_coin_52 rfl hl (by decide) rfl (fun ls hl => ?_)
                refine lv_iload hx hb d_M_coin_53 (lv_at hl 2 rfl) ?_
                refine lv_iload hx hb d_M_coin_55 (lv_at hl 1 rfl) ?_
                refine lv_icmp_eq (tgt := 73) hx hb d_M_coin_57 (by decide) (fun c57 => ?_) (fun c57 => ?_)
                · have hw := hw.1 c57
                  refine lv_goto (tgt := 2) hx hb d_M_coin_73 (by decide) ?_
                  exact ih_2 _ _ _ hw _ _ _ hP hD hS (lv_sub hl [0, 3, 4] rfl)
                · have hw := hw.2 c57
                  refine lv_iload hx hb d_M_coin_60 (lv_at hl 2 rfl) ?_
                  refine lv_iload hx hb d_M_coin_62 (lv_at hl 1 rfl) ?_
                  refine lv_icmp_ge (tgt := 71) hx hb d_M_coin_64 (by decide) (fun c64 => ?_) (fun c64 => ?_)
                  · have hw := hw.1 c64
                    refine lv_iconst (v := (nI 0)) hx hb d_M_coin_71 (by decide) ?_
                    exact hret _ _ _ (oat_2, oisOut_3) _ _ hw rfl hP hD hS d_M_coin_72
                  · have hw := hw.2 c64
                    refine lv_iconst (v := (nI 1)) hx hb d_M_coin_67 (by decide) ?_
                    refine lv_goto (tgt := 72) hx hb d_M_coin_68 (by decide) ?_
                    exact hret _ _ _ (oat_2, oisOut_3) _ _ hw rfl hP hD hS d_M_coin_72
  exact k_2 n_2 _ _ _ hw _ _ _ hP hD hS (lv_sub hl [0, 1, 3] rfl)
def wpF_M_choice_8 (post : Int32 → Int32 → Int32 → Prop) (o_length : Int32) (o_spent : Int32) (o_many : Int32) (o_values : Int32) (o_failures : Int32) (o_works : Int32) (vb : Nat → Int32) (x1 : Int32) (x2 : Int32) (K_8 : Int32 → Int32 → Int32 → Int32 → Int32 → Prop) (o_at : Int32) (o_isOut : Int32) (x3 : Int32) (x4 : Int32) (x5 : Int32) : Prop :=
  ((x1 ≤ x5 → post x4 o_at o_isOut) ∧ (¬ x1 ≤ x5 → ((¬ o_isOut = 0 → post x4 o_at o_isOut) ∧ (o_isOut = 0 → wp_M_coin (fun r_1 oat_2 oisOut_3 => ((¬ r_1 = (nI 1) → K_8 oat_2 oisOut_3 x3 x4 (x5 + (nI 1))) ∧ (r_1 = (nI 1) → K_8 oat_2 oisOut_3 (x3 + (nI 1)) (x4 + ((nI 1) <<< (x5 &&& 31))) (x5 + (nI 1))))) o_length o_spent o_many o_at o_isOut o_values o_failures o_works vb (x2 - x3) (x1 - x5)))))
def wp_M_choice (post : Int32 → Int32 → Int32 → Prop) (o_length : Int32) (o_spent : Int32) (o_many : Int32) (o_at : Int32) (o_isOut : Int32) (o_values : Int32) (o_failures : Int32) (o_works : Int32) (vb : Nat → Int32) (x1 : Int32) (x2 : Int32) : Prop :=
  (∃ n, gL5 (wpF_M_choice_8 post o_length o_spent o_many o_values o_failures o_works vb x1 x2) n o_at o_isOut (nI 0) (nI 0) (nI 0))
abbrev rm_M_choice : Room := { frames := 2, cells := 0, slots := 0, locals := 45 }
theorem mf_M_choice : gFV y_M_choice b_M_choice 6 (some .int) 2 := ⟨w_320, w_4, ⟨by decide, by decide, by decide +kernel⟩, w_319, ws_1_14⟩
set_option maxHeartbeats 4000000 in
set_option maxRecDepth 100000 in
theorem c_M_choice (l : Launch) (D : va_G) (cI : ClassId) (h_o : Nat) (h_b : Nat) (o_weights : Nat) (o_tape : Nat) (o_row : Nat) (o_length : Int32) (o_spent : Int32) (o_many : Int32) (o_at : Int32) (o_isOut : Int32) (o_values : Int32) (o_failures : Int32) (o_works : Int32) (vb : Nat → Int32) (x1 : Int32) (x2 : Int32) (post : Int32 → Int32 → Int32 → Prop) (hw : wp_M_choice post o_length o_spent o_many o_at o_isOut o_values o_failures o_works vb x1 x2) :
    gMi l D [(cI, .int)] y_M_choice b_M_choice 6 .int rm_M_choice [.ref h_o, .int x1, .int x2] [(h_o, .inr (3, [.ref o_weights, .ref o_tape, .int o_length, .int o_spent, .ref h_b, .int o_many, .int o_at, .int o_isOut, .ref o_row, .int o_values, .int o_failures, .int o_works])), (h_b, .inl (cI, 256, .inl vb))] (S := Int32 × Int32) (fun u => [(h_o, .inr (3, [.ref o_weights, .ref o_tape, .int o_length, .int o_spent, .ref h_b, .int o_many, .int u.1, .int u.2, .ref o_row, .int o_values, .int o_failures, .int o_works])), (h_b, .inl (cI, 256, .inl vb))]) (fun r u => post r u.1 u.2) := by
  rw [wp_M_choice] at hw
  refine gMi.of (by decide) (Nat.le_of_ble_eq_true rfl) (fun p e s m args below meth c A Q ls hx hb hml hown hts hN hK hA hP hD hret hl => ?_)
  have fx : CallFix p m c b_M_choice 6 s args gG "TapeCounterModel" := ⟨hx, hb, hml, hown, hts⟩
  have hl : lv_has ls 6 [(0, .ref h_o), (1, .int x1), (2, .int x2)] := hl
  have hS : va_S A s.heap s.heap [] := va_S.rf
  refine lv_iconst (v := (nI 0)) hx hb d_M_choice_0 (by decide) ?_
  refine lv_istore_n (lv' := [(3, .int (nI 0)), (0, .ref h_o), (1, .int x1), (2, .int x2)]) hx hb d_M_choice_1 rfl hl (by decide) rfl (fun ls hl => ?_)
  refine lv_iconst (v := (nI 0)) hx hb d_M_choice_2 (by decide) ?_
  refine lv_istore (lv' := [(4, .int (nI 0)), (3, .int (nI 0)), (0, .ref h_o), (1, .int x1), (2, .int x2)]) hx hb d_M_choice_3 hl (by decide) rfl (fun ls hl => ?_)
  refine lv_iconst (v := (nI 0)) hx hb d_M_choice_5 (by decide) ?_
  refine lv_istore (lv' := [(5, .int (nI 0)), (4, .int (nI 0)), (3, .int (nI 0)), (0, .ref h_o), (1, .int x1), (2, .int x2)]) hx hb d_M_choice_6 hl (by decide) rfl (fun ls hl => ?_)
  obtain ⟨n_8, hw⟩ := hw
  have k_8 : ∀ (n_8 : Nat) (o_at : Int32) (o_isOut : Int32) (x3 : Int32) (x4 : Int32) (x5 : Int32), gL5 (wpF_M_choice_8 post o_length o_spent o_many o_values o_failures o_works vb x1 x2) n_8 o_at o_isOut x3 x4 x5 → ∀ (H : Heap) (locs : List Loc) (ls : Array Slot), va_P D gCl [(h_o, .inr (3, [.ref o_weights, .ref o_tape, .int o_length, .int o_spent, .ref h_b, .int o_many, .int o_at, .int o_isOut, .ref o_row, .int o_values, .int o_failures, .int o_works])), (h_b, .inl (cI, 256, .inl vb))] H → va_D A [(h_o, .inr (3, [.ref o_weights, .ref o_tape, .int o_length, .int o_spent, .ref h_b, .int o_many, .int o_at, .int o_isOut, .ref o_row, .int o_values, .int o_failures, .int o_works])), (h_b, .inl (cI, 256, .inl vb))] → va_S A s.heap H locs → lv_has ls 6 [(5, .int x5), (4, .int x4), (3, .int x3), (0, .ref h_o), (1, .int x1), (2, .int x2)] → W p l e rm_M_choice s m args below meth c H locs 0 0 Q (F0 m 8 ls []) := by
    clear hw hP hD hS hl
    intro n_8
    induction n_8 with
    | zero => exact fun _ _ _ _ _ h => h.elim
    | succ n_8 ih_8 =>
      intro o_at o_isOut x3 x4 x5 hw H locs ls hP hD hS hl
      have hw : wpF_M_choice_8 post o_length o_spent o_many o_values o_failures o_works vb x1 x2 (gL5 (wpF_M_choice_8 post o_length o_spent o_many o_values o_failures o_works vb x1 x2) n_8) o_at o_isOut x3 x4 x5 := hw
      rw [wpF_M_choice_8] at hw
      refine lv_iload hx hb d_M_choice_8 (lv_at hl 0 rfl) ?_
      refine lv_iload_n hx hb d_M_choice_10 rfl (lv_at hl 4 rfl) ?_
      refine lv_icmp_ge (tgt := 54) hx hb d_M_choice_11 (by decide) (fun c11 => ?_) (fun c11 => ?_)
      · have hw := hw.1 c11
        refine lv_iload hx hb d_M_choice_54 (lv_at hl 1 rfl) ?_
        exact hret _ _ _ (o_at, o_isOut) _ _ hw rfl hP hD hS d_M_choice_56
      · have hw := hw.2 c11
        refine lv_aload_n hx hb d_M_choice_14 rfl (lv_at hl 3 rfl) ?_
        refine gGet fx hK hP 0 rfl inM rfl (k := 7) (by decide) w_234 rfl d_M_choice_15 ?_
        refine lv_if_ne (tgt := 54) hx hb d_M_choice_18 (by decide) (fun c18 => ?_) (fun c18 => ?_)
        · have hw := hw.1 c18
          refine lv_iload hx hb d_M_choice_54 (lv_at hl 1 rfl) ?_
          exact hret _ _ _ (o_at, o_isOut) _ _ hw rfl hP hD hS d_M_choice_56
        · have hw := hw.2 c18
          refine lv_aload_n hx hb d_M_choice_21 rfl (lv_at hl 3 rfl) ?_
          refine lv_iload_n hx hb d_M_choice_22 rfl (lv_at hl 5 rfl) ?_
          refine lv_iload_n hx hb d_M_choice_23 rfl (lv_at hl 2 rfl) ?_
          refine lv_isub hx hb d_M_choice_24 ?_
          refine lv_iload_n hx hb d_M_choice_25 rfl (lv_at hl 4 rfl) ?_
          refine lv_iload hx hb d_M_choice_26 (lv_at hl 0 rfl) ?_
          refine lv_isub hx hb d_M_choice_28 ?_
          refine g_cVi (wr := []) fx (c_M_coin l D cI h_o h_b o_weights o_tape o_row o_length o_spent o_many o_at o_isOut o_values o_failures o_works vb (x2 - x3) (x1 - x5) _ hw) mf_M_coin w_309 ⟨rfl, rfl⟩ ⟨Nat.le_of_ble_eq_true rfl, Nat.le_of_ble_eq_true rfl⟩ hN hK hA hP hD hS [0, 1] [] rfl rfl rfl rfl (by decide) 0 rfl rfl rfl rfl hl.1 (Nat.le_of_ble_eq_true rfl) d_M_choice_29 ⟨Nat.zero_le _, Nat.zero_le _⟩ (fun r_1 u H locs hw hP hD hS => ?_)
          obtain ⟨oat_2, oisOut_3⟩ := u
          try dsimp only at hw
          have hP : va_P D gCl [(h_o, .inr (3, [.ref o_weights, .ref o_tape, .int o_length, .int o_spent, .ref h_b, .int o_many, .int oat_2, .int oisOut_3, .ref o_row, .int o_values, .int o_failures, .int o_works])), (h_b, .inl (cI, 256, .inl vb))] H := hP
          have hD : va_D A [(h_o, .inr (3, [.ref o_weights, .ref o_tape, .int o_length, .int o_spent, .ref h_b, .int o_many, .int oat_2, .int oisOut_3, .ref o_row, .int o_values, .int o_failures, .int o_works])), (h_b, .inl (cI, 256, .inl vb))] := hD
          refine lv_iconst (v := (nI 1)) hx hb d_M_choice_32 (by decide) ?_
          refine lv_icmp_ne (tgt := 48) hx hb d_M_choice_33 (by decide) (fun c33 => ?_) (fun c33 => ?_)
          · have hw := hw.1 c33
            refine lv_iinc (v := (x5 + (nI 1))) (lv' := [(5, .int (x5 + (nI 1))), (4, .int x4), (3, .int x3), (0, .ref h_o), (1, .int x1), (2, .int x2)]) hx hb d_M_choice_48 hl (k := 0) rfl rfl (by decide) rfl (fun ls hl => ?_)
            refine lv_goto (tgt := 8) hx hb d_M_choice_51 (by decide) ?_
            exact ih_8 _ _ _ _ _ hw _ _ _ hP hD hS (lv_sub hl [0, 1, 2, 3, 4, 5] rfl)
          · have hw := hw.2 c33
            refine lv_iinc (v := (x3 + (nI 1))) (lv' := [(3, .int (x3 + (nI 1))), (5, .int x5), (4, .int x4), (0, .ref h_o), (1, .int x1), (2, .int x2)]) hx hb d_M_choice_36 hl (k := 2) rfl rfl (by decide) rfl (fun ls hl => ?_)
            refine lv_iload hx hb d_M_choice_39 (lv_at hl 2 rfl) ?_
            refine lv_iconst (v := (nI 1)) hx hb d_M_choice_41 (by decide) ?_
            refine lv_iload hx hb d_M_choice_42 (lv_at hl 1 rfl) ?_
            refine lv_ishl hx hb d_M_choice_44 ?_
            refine lv_iadd hx hb d_M_choice_45 ?_
            refine lv_istore (lv' := [(4, .int (x4 + ((nI 1) <<< (x5 &&& 31)))), (3, .int (x3 + (nI 1))), (5, .int x5), (0, .ref h_o), (1, .int x1), (2, .int x2)]) hx hb d_M_choice_46 hl (by decide) rfl (fun ls hl => ?_)
            refine lv_iinc (v := (x5 + (nI 1))) (lv' := [(5, .int (x5 + (nI 1))), (4, .int (x4 + ((nI 1) <<< (x5 &&& 31)))), (3, .int (x3 + (nI 1))), (0, .ref h_o), (1, .int x1), (2, .int x2)]) hx hb d_M_choice_48 hl (k := 2) rfl rfl (by decide) rfl (fun ls hl => ?_)
            refine lv_goto (tgt := 8) hx hb d_M_choice_51 (by decide) ?_
            exact ih_8 _ _ _ _ _ hw _ _ _ hP hD hS (lv_sub hl [0, 1, 2, 3, 4, 5] rfl)
  exact k_8 n_8 _ _ _ _ _ hw _ _ _ hP hD hS (lv_sub hl [0, 1, 2, 3, 4, 5] rfl)
