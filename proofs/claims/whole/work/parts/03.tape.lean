def wp_T_size (post : Int32 → Prop) (t_size : Int32) (t_at : Int32) : Prop :=
  post t_size
abbrev rm_T_size : Room := { frames := 0, cells := 0, slots := 0, locals := 0 }
theorem mf_T_size : gFV y_T_size b_T_size 1 (some .int) 0 := ⟨w_96, w_2, ⟨by decide, by decide, by decide +kernel⟩, w_94, w_95⟩
set_option maxHeartbeats 4000000 in
set_option maxRecDepth 100000 in
theorem c_T_size (l : Launch) (D : va_G) (cI : ClassId) (h_t : Nat) (t_bits : Nat) (t_size : Int32) (t_at : Int32) (post : Int32 → Prop) (hw : wp_T_size post t_size t_at) :
    gMi l D [(cI, .int)] y_T_size b_T_size 1 .int rm_T_size [.ref h_t] [(h_t, .inr (1, [.ref t_bits, .int t_size, .int t_at]))] (S := Unit) (fun u => [(h_t, .inr (1, [.ref t_bits, .int t_size, .int t_at]))]) (fun r u => post r) := by
  rw [wp_T_size] at hw
  refine gMi.of (by decide) (Nat.le_of_ble_eq_true rfl) (fun p e s m args below meth c A Q ls hx hb hml hown hts hN hK hA hP hD hret hl => ?_)
  have fx : CallFix p m c b_T_size 1 s args gG "TapeCounter$Tape" := ⟨hx, hb, hml, hown, hts⟩
  have hl : lv_has ls 1 [(0, .ref h_t)] := hl
  have hS : va_S A s.heap s.heap [] := va_S.rf
  refine lv_aload_n hx hb d_T_size_0 rfl (lv_at hl 0 rfl) ?_
  refine gGet fx hK hP 0 rfl inT rfl (k := 1) (by decide) w_22 rfl d_T_size_1 ?_
  exact hret _ _ _ () _ _ hw rfl hP hD hS d_T_size_4
def wp_T_readSoFar (post : Int32 → Prop) (t_size : Int32) (t_at : Int32) : Prop :=
  post t_at
abbrev rm_T_readSoFar : Room := { frames := 0, cells := 0, slots := 0, locals := 0 }
theorem mf_T_readSoFar : gFV y_T_readSoFar b_T_readSoFar 1 (some .int) 0 := ⟨w_167, w_2, ⟨by decide, by decide, by decide +kernel⟩, w_165, w_166⟩
set_option maxHeartbeats 4000000 in
set_option maxRecDepth 100000 in
theorem c_T_readSoFar (l : Launch) (D : va_G) (cI : ClassId) (h_t : Nat) (t_bits : Nat) (t_size : Int32) (t_at : Int32) (post : Int32 → Prop) (hw : wp_T_readSoFar post t_size t_at) :
    gMi l D [(cI, .int)] y_T_readSoFar b_T_readSoFar 1 .int rm_T_readSoFar [.ref h_t] [(h_t, .inr (1, [.ref t_bits, .int t_size, .int t_at]))] (S := Unit) (fun u => [(h_t, .inr (1, [.ref t_bits, .int t_size, .int t_at]))]) (fun r u => post r) := by
  rw [wp_T_readSoFar] at hw
  refine gMi.of (by decide) (Nat.le_of_ble_eq_true rfl) (fun p e s m args below meth c A Q ls hx hb hml hown hts hN hK hA hP hD hret hl => ?_)
  have fx : CallFix p m c b_T_readSoFar 1 s args gG "TapeCounter$Tape" := ⟨hx, hb, hml, hown, hts⟩
  have hl : lv_has ls 1 [(0, .ref h_t)] := hl
  have hS : va_S A s.heap s.heap [] := va_S.rf
  refine lv_aload_n hx hb d_T_readSoFar_0 rfl (lv_at hl 0 rfl) ?_
  refine gGet fx hK hP 0 rfl inT rfl (k := 2) (by decide) w_23 rfl d_T_readSoFar_1 ?_
  exact hret _ _ _ () _ _ hw rfl hP hD hS d_T_readSoFar_4
def wp_T_clear (post : Int32 → Int32 → Prop) (t_size : Int32) (t_at : Int32) : Prop :=
  post (nI 0) (nI 0)
abbrev rm_T_clear : Room := { frames := 0, cells := 0, slots := 0, locals := 0 }
theorem mf_T_clear : gFV y_T_clear b_T_clear 1 none 0 := ⟨w_198, w_2, ⟨by decide, by decide, by decide +kernel⟩, w_196, w_197⟩
set_option maxHeartbeats 4000000 in
set_option maxRecDepth 100000 in
theorem c_T_clear (l : Launch) (D : va_G) (cI : ClassId) (h_t : Nat) (t_bits : Nat) (t_size : Int32) (t_at : Int32) (post : Int32 → Int32 → Prop) (hw : wp_T_clear post t_size t_at) :
    gMv l D [(cI, .int)] y_T_clear b_T_clear 1 rm_T_clear [.ref h_t] [(h_t, .inr (1, [.ref t_bits, .int t_size, .int t_at]))] (S := Int32 × Int32) (fun u => [(h_t, .inr (1, [.ref t_bits, .int u.1, .int u.2]))]) (fun u => post u.1 u.2) := by
  rw [wp_T_clear] at hw
  refine gMv.of (by decide) (Nat.le_of_ble_eq_true rfl) (fun p e s m args below meth c A Q ls hx hb hml hown hts hN hK hA hP hD hret hl => ?_)
  have fx : CallFix p m c b_T_clear 1 s args gG "TapeCounter$Tape" := ⟨hx, hb, hml, hown, hts⟩
  have hl : lv_has ls 1 [(0, .ref h_t)] := hl
  have hS : va_S A s.heap s.heap [] := va_S.rf
  refine lv_aload_n hx hb d_T_clear_0 rfl (lv_at hl 0 rfl) ?_
  refine lv_iconst (v := (nI 0)) hx hb d_T_clear_1 (by decide) ?_
  refine gPut fx hK hP hD hS 0 rfl inT tyT nmT rfl (k := 1) (by decide) w_22 rfl rfl rfl (Nat.le_of_ble_eq_true rfl) d_T_clear_2 (fun H locs hP hD hS => ?_)
  have hP : va_P D gCl [(h_t, .inr (1, [.ref t_bits, .int (nI 0), .int t_at]))] H := hP
  have hD : va_D A [(h_t, .inr (1, [.ref t_bits, .int (nI 0), .int t_at]))] := hD
  refine lv_aload_n hx hb d_T_clear_5 rfl (lv_at hl 0 rfl) ?_
  refine lv_iconst (v := (nI 0)) hx hb d_T_clear_6 (by decide) ?_
  refine gPut fx hK hP hD hS 0 rfl inT tyT nmT rfl (k := 2) (by decide) w_23 rfl rfl rfl (Nat.le_of_ble_eq_true rfl) d_T_clear_7 (fun H locs hP hD hS => ?_)
  have hP : va_P D gCl [(h_t, .inr (1, [.ref t_bits, .int (nI 0), .int (nI 0)]))] H := hP
  have hD : va_D A [(h_t, .inr (1, [.ref t_bits, .int (nI 0), .int (nI 0)]))] := hD
  exact hret _ _ ((nI 0), (nI 0)) _ _ hw hP hD hS d_T_clear_10
def wp_T_rewind (post : Int32 → Prop) (t_size : Int32) (t_at : Int32) : Prop :=
  post (nI 0)
abbrev rm_T_rewind : Room := { frames := 0, cells := 0, slots := 0, locals := 0 }
theorem mf_T_rewind : gFV y_T_rewind b_T_rewind 1 none 0 := ⟨w_117, w_2, ⟨by decide, by decide, by decide +kernel⟩, w_115, w_116⟩
set_option maxHeartbeats 4000000 in
set_option maxRecDepth 100000 in
theorem c_T_rewind (l : Launch) (D : va_G) (cI : ClassId) (h_t : Nat) (t_bits : Nat) (t_size : Int32) (t_at : Int32) (post : Int32 → Prop) (hw : wp_T_rewind post t_size t_at) :
    gMv l D [(cI, .int)] y_T_rewind b_T_rewind 1 rm_T_rewind [.ref h_t] [(h_t, .inr (1, [.ref t_bits, .int t_size, .int t_at]))] (S := Int32) (fun u => [(h_t, .inr (1, [.ref t_bits, .int t_size, .int u]))]) (fun u => post u) := by
  rw [wp_T_rewind] at hw
  refine gMv.of (by decide) (Nat.le_of_ble_eq_true rfl) (fun p e s m args below meth c A Q ls hx hb hml hown hts hN hK hA hP hD hret hl => ?_)
  have fx : CallFix p m c b_T_rewind 1 s args gG "TapeCounter$Tape" := ⟨hx, hb, hml, hown, hts⟩
  have hl : lv_has ls 1 [(0, .ref h_t)] := hl
  have hS : va_S A s.heap s.heap [] := va_S.rf
  refine lv_aload_n hx hb d_T_rewind_0 rfl (lv_at hl 0 rfl) ?_
  refine lv_iconst (v := (nI 0)) hx hb d_T_rewind_1 (by decide) ?_
  refine gPut fx hK hP hD hS 0 rfl inT tyT nmT rfl (k := 2) (by decide) w_23 rfl rfl rfl (Nat.le_of_ble_eq_true rfl) d_T_rewind_2 (fun H locs hP hD hS => ?_)
  have hP : va_P D gCl [(h_t, .inr (1, [.ref t_bits, .int t_size, .int (nI 0)]))] H := hP
  have hD : va_D A [(h_t, .inr (1, [.ref t_bits, .int t_size, .int (nI 0)]))] := hD
  exact hret _ _ (nI 0) _ _ hw hP hD hS d_T_rewind_5
def wpF_T_append_30 (post : Int32 → Int32 → (Nat → Int32) → Prop) (Nb : Nat) (x1 : Int32) (K_30 : Int32 → (Nat → Int32) → Int32 → Prop) (t_size : Int32) (vb : Nat → Int32) (x3 : Int32) : Prop :=
  ((x3 < 0 → post (nI 1) t_size vb) ∧ (¬ x3 < 0 → (vp_in t_size Nb ∧ K_30 (t_size + (nI 1)) (upd vb (t_size).toNatClampNeg (((x1).toUInt32 >>> ((x3).toUInt32 &&& Int32.toUInt32 31)).toInt32 &&& (nI 1))) (x3 + (-1)))))
def wp_T_append (post : Int32 → Int32 → (Nat → Int32) → Prop) (Nb : Nat) (t_size : Int32) (t_at : Int32) (vb : Nat → Int32) (x1 : Int32) (x2 : Int32) : Prop :=
  ((x2 < 0 → post (nI 0) t_size vb) ∧ (¬ x2 < 0 → (((nI 32) < x2 → post (nI 0) t_size vb) ∧ (¬ (nI 32) < x2 → ((x2 ≤ ((nI Nb) - t_size) → (∃ n, gL3 (wpF_T_append_30 post Nb x1) n t_size vb (x2 - (nI 1)))) ∧ (¬ x2 ≤ ((nI Nb) - t_size) → post (nI 0) t_size vb))))))
abbrev rm_T_append : Room := { frames := 0, cells := 0, slots := 0, locals := 0 }
theorem mf_T_append : gFV y_T_append b_T_append 4 (some .boolean) 2 := ⟨w_92, w_2, ⟨by decide, by decide, by decide +kernel⟩, w_90, w_91⟩
set_option maxHeartbeats 4000000 in
set_option maxRecDepth 100000 in
theorem c_T_append (l : Launch) (D : va_G) (cI : ClassId) (h_t : Nat) (h_b : Nat) (Nb : Nat) (t_size : Int32) (t_at : Int32) (vb : Nat → Int32) (x1 : Int32) (x2 : Int32) (post : Int32 → Int32 → (Nat → Int32) → Prop) (hw : wp_T_append post Nb t_size t_at vb x1 x2) :
    gMi l D [(cI, .int)] y_T_append b_T_append 4 .boolean rm_T_append [.ref h_t, .int x1, .int x2] [(h_t, .inr (1, [.ref h_b, .int t_size, .int t_at])), (h_b, .inl (cI, Nb, .inl vb))] (S := Int32 × (Nat → Int32)) (fun u => [(h_t, .inr (1, [.ref h_b, .int u.1, .int t_at])), (h_b, .inl (cI, Nb, .inl u.2))]) (fun r u => post r u.1 u.2) := by
  rw [wp_T_append] at hw
  refine gMi.of (by decide) (Nat.le_of_ble_eq_true rfl) (fun p e s m args below meth c A Q ls hx hb hml hown hts hN hK hA hP hD hret hl => ?_)
  have fx : CallFix p m c b_T_append 4 s args gG "TapeCounter$Tape" := ⟨hx, hb, hml, hown, hts⟩
  have hl : lv_has ls 4 [(0, .ref h_t), (1, .int x1), (2, .int x2)] := hl
  have hS : va_S A s.heap s.heap [] := va_S.rf
  refine lv_iload_n hx hb d_T_append_0 rfl (lv_at hl 2 rfl) ?_
  refine lv_if_lt (tgt := 24) hx hb d_T_append_1 (by decide) (fun c1 => ?_) (fun c1 => ?_)
  · have hw := hw.1 c1
    refine lv_iconst (v := (nI 0)) hx hb d_T_append_24 (by decide) ?_
    exact hret _ _ _ (t_size, vb) _ _ hw rfl hP hD hS d_T_append_25
  · have hw := hw.2 c1
    refine lv_iload_n hx hb d_T_append_4 rfl (lv_at hl 2 rfl) ?_
    refine lv_bipush (v := (nI 32)) hx hb d_T_append_5 (by decide) ?_
    refine lv_icmp_gt (tgt := 24) hx hb d_T_append_7 (by decide) (fun c7 => ?_) (fun c7 => ?_)
    · have hw := hw.1 c7
      refine lv_iconst (v := (nI 0)) hx hb d_T_append_24 (by decide) ?_
      exact hret _ _ _ (t_size, vb) _ _ hw rfl hP hD hS d_T_append_25
    · have hw := hw.2 c7
      refine lv_iload_n hx hb d_T_append_10 rfl (lv_at hl 2 rfl) ?_
      refine lv_aload_n hx hb d_T_append_11 rfl (lv_at hl 0 rfl) ?_
      refine gGet fx hK hP 0 rfl inT rfl (k := 0) (by decide) w_21 rfl d_T_append_12 ?_
      refine va_alen hx hb hK hP 1 0 rfl rfl (v := nI Nb) rfl d_T_append_15 ?_
      refine lv_aload_n hx hb d_T_append_16 rfl (lv_at hl 0 rfl) ?_
      refine gGet fx hK hP 0 rfl inT rfl (k := 1) (by decide) w_22 rfl d_T_append_17 ?_
      refine lv_isub hx hb d_T_append_20 ?_
      refine lv_icmp_le (tgt := 26) hx hb d_T_append_21 (by decide) (fun c21 => ?_) (fun c21 => ?_)
      · have hw := hw.1 c21
        refine lv_iload_n hx hb d_T_append_26 rfl (lv_at hl 2 rfl) ?_
        refine lv_iconst (v := (nI 1)) hx hb d_T_append_27 (by decide) ?_
        refine lv_isub hx hb d_T_append_28 ?_
        refine lv_istore_n (lv' := [(3, .int (x2 - (nI 1))), (0, .ref h_t), (1, .int x1), (2, .int x2)]) hx hb d_T_append_29 rfl hl (by decide) rfl (fun ls hl => ?_)
        obtain ⟨n_30, hw⟩ := hw
        have k_30 : ∀ (n_30 : Nat) (t_size : Int32) (vb : Nat → Int32) (x3 : Int32), gL3 (wpF_T_append_30 post Nb x1) n_30 t_size vb x3 → ∀ (H : Heap) (locs : List Loc) (ls : Array Slot), va_P D gCl [(h_t, .inr (1, [.ref h_b, .int t_size, .int t_at])), (h_b, .inl (cI, Nb, .inl vb))] H → va_D A [(h_t, .inr (1, [.ref h_b, .int t_size, .int t_at])), (h_b, .inl (cI, Nb, .inl vb))] → va_S A s.heap H locs → lv_has ls 4 [(3, .int x3), (0, .ref h_t), (1, .int x1)] → W p l e rm_T_append s m args below meth c H locs 0 0 Q (F0 m 30 ls []) := by
          clear hw hP hD hS hl
          intro n_30
          induction n_30 with
          | zero => exact fun _ _ _ h => h.elim
          | succ n_30 ih_30 =>
            intro t_size vb x3 hw H locs ls hP hD hS hl
            have hw : wpF_T_append_30 post Nb x1 (gL3 (wpF_T_append_30 post Nb x1) n_30) t_size vb x3 := hw
            rw [wpF_T_append_30] at hw
            refine lv_iload_n hx hb d_T_append_30 rfl (lv_at hl 0 rfl) ?_
            refine lv_if_lt (tgt := 64) hx hb d_T_append_31 (by decide) (fun c31 => ?_) (fun c31 => ?_)
            · have hw := hw.1 c31
              refine lv_iconst (v := (nI 1)) hx hb d_T_append_64 (by decide) ?_
              exact hret _ _ _ (t_size, vb) _ _ hw rfl hP hD hS d_T_append_65
            · have hw := hw.2 c31
              refine lv_aload_n hx hb d_T_append_34 rfl (lv_at hl 1 rfl) ?_
              refine gGet fx hK hP 0 rfl inT rfl (k := 0) (by decide) w_21 rfl d_T_append_35 ?_
              refine lv_aload_n hx hb d_T_append_38 rfl (lv_at hl 1 rfl) ?_
              refine gGet fx hK hP 0 rfl inT rfl (k := 1) (by decide) w_22 rfl d_T_append_39 ?_
              refine lv_iload_n hx hb d_T_append_42 rfl (lv_at hl 2 rfl) ?_
              refine lv_iload_n hx hb d_T_append_43 rfl (lv_at hl 0 rfl) ?_
              refine lv_iushr hx hb d_T_append_44 rfl ?_
              refine lv_iconst (v := (nI 1)) hx hb d_T_append_45 (by decide) ?_
              refine lv_iand hx hb d_T_append_46 ?_
              refine va_iast hx hb hK hP hD hS 1 0 rfl rfl hw.1 d_T_append_47 (fun H locs hP hD hS => ?_)
              have hw := hw.2
              have hP : va_P D gCl [(h_t, .inr (1, [.ref h_b, .int t_size, .int t_at])), (h_b, .inl (cI, Nb, .inl (upd vb (t_size).toNatClampNeg (((x1).toUInt32 >>> ((x3).toUInt32 &&& Int32.toUInt32 31)).toInt32 &&& (nI 1)))))] H := hP
              have hD : va_D A [(h_t, .inr (1, [.ref h_b, .int t_size, .int t_at])), (h_b, .inl (cI, Nb, .inl (upd vb (t_size).toNatClampNeg (((x1).toUInt32 >>> ((x3).toUInt32 &&& Int32.toUInt32 31)).toInt32 &&& (nI 1)))))] := hD
              refine lv_aload_n hx hb d_T_append_48 rfl (lv_at hl 1 rfl) ?_
              refine lv_dup hx hb d_T_append_49 rfl ?_
              refine gGet fx hK hP 0 rfl inT rfl (k := 1) (by decide) w_22 rfl d_T_append_50 ?_
              refine lv_iconst (v := (nI 1)) hx hb d_T_append_53 (by decide) ?_
              refine lv_iadd hx hb d_T_append_54 ?_
              refine gPut fx hK hP hD hS 0 rfl inT tyT nmT rfl (k := 1) (by decide) w_22 rfl rfl rfl (Nat.le_of_ble_eq_true rfl) d_T_append_55 (fun H locs hP hD hS => ?_)
              have hP : va_P D gCl [(h_t, .inr (1, [.ref h_b, .int (t_size + (nI 1)), .int t_at])), (h_b, .inl (cI, Nb, .inl (upd vb (t_size).toNatClampNeg (((x1).toUInt32 >>> ((x3).toUInt32 &&& Int32.toUInt32 31)).toInt32 &&& (nI 1)))))] H := hP
              have hD : va_D A [(h_t, .inr (1, [.ref h_b, .int (t_size + (nI 1)), .int t_at])), (h_b, .inl (cI, Nb, .inl (upd vb (t_size).toNatClampNeg (((x1).toUInt32 >>> ((x3).toUInt32 &&& Int32.toUInt32 31)).toInt32 &&& (nI 1)))))] := hD
              refine lv_iinc (v := (x3 + (-1))) (lv' := [(3, .int (x3 + (-1))), (0, .ref h_t), (1, .int x1)]) hx hb d_T_append_58 hl (k := 0) rfl (by rw [i32_m1]) (by decide) rfl (fun ls hl => ?_)
              refine lv_goto (tgt := 30) hx hb d_T_append_61 (by decide) ?_
              exact ih_30 _ _ _ hw _ _ _ hP hD hS (lv_sub hl [0, 1, 2] rfl)
        exact k_30 n_30 _ _ _ hw _ _ _ hP hD hS (lv_sub hl [0, 1, 2] rfl)
      · have hw := hw.2 c21
        refine lv_iconst (v := (nI 0)) hx hb d_T_append_24 (by decide) ?_
        exact hret _ _ _ (t_size, vb) _ _ hw rfl hP hD hS d_T_append_25
def wp_T_readBit (post : Int32 → Int32 → Prop) (Nb : Nat) (t_size : Int32) (t_at : Int32) (vb : Nat → Int32) : Prop :=
  ((t_at < t_size → (vp_in t_at Nb ∧ post (vb (t_at).toNatClampNeg) (t_at + (nI 1)))) ∧ (¬ t_at < t_size → post (-1) t_at))
abbrev rm_T_readBit : Room := { frames := 0, cells := 0, slots := 0, locals := 0 }
theorem mf_T_readBit : gFV y_T_readBit b_T_readBit 2 (some .int) 0 := ⟨w_135, w_2, ⟨by decide, by decide, by decide +kernel⟩, w_133, w_134⟩
set_option maxHeartbeats 4000000 in
set_option maxRecDepth 100000 in
theorem c_T_readBit (l : Launch) (D : va_G) (cI : ClassId) (h_t : Nat) (h_b : Nat) (Nb : Nat) (t_size : Int32) (t_at : Int32) (vb : Nat → Int32) (post : Int32 → Int32 → Prop) (hw : wp_T_readBit post Nb t_size t_at vb) :
    gMi l D [(cI, .int)] y_T_readBit b_T_readBit 2 .int rm_T_readBit [.ref h_t] [(h_t, .inr (1, [.ref h_b, .int t_size, .int t_at])), (h_b, .inl (cI, Nb, .inl vb))] (S := Int32) (fun u => [(h_t, .inr (1, [.ref h_b, .int t_size, .int u])), (h_b, .inl (cI, Nb, .inl vb))]) (fun r u => post r u) := by
  rw [wp_T_readBit] at hw
  refine gMi.of (by decide) (Nat.le_of_ble_eq_true rfl) (fun p e s m args below meth c A Q ls hx hb hml hown hts hN hK hA hP hD hret hl => ?_)
  have fx : CallFix p m c b_T_readBit 2 s args gG "TapeCounter$Tape" := ⟨hx, hb, hml, hown, hts⟩
  have hl : lv_has ls 2 [(0, .ref h_t)] := hl
  have hS : va_S A s.heap s.heap [] := va_S.rf
  refine lv_aload_n hx hb d_T_readBit_0 rfl (lv_at hl 0 rfl) ?_
  refine gGet fx hK hP 0 rfl inT rfl (k := 2) (by decide) w_23 rfl d_T_readBit_1 ?_
  refine lv_aload_n hx hb d_T_readBit_4 rfl (lv_at hl 0 rfl) ?_
  refine gGet fx hK hP 0 rfl inT rfl (k := 1) (by decide) w_22 rfl d_T_readBit_5 ?_
  refine lv_icmp_lt (tgt := 13) hx hb d_T_readBit_8 (by decide) (fun c8 => ?_) (fun c8 => ?_)
  · have hw := hw.1 c8
    refine lv_aload_n hx hb d_T_readBit_13 rfl (lv_at hl 0 rfl) ?_
    refine gGet fx hK hP 0 rfl inT rfl (k := 0) (by decide) w_21 rfl d_T_readBit_14 ?_
    refine lv_aload_n hx hb d_T_readBit_17 rfl (lv_at hl 0 rfl) ?_
    refine gGet fx hK hP 0 rfl inT rfl (k := 2) (by decide) w_23 rfl d_T_readBit_18 ?_
    refine va_iald hx hb hK hP 1 0 rfl rfl hw.1 d_T_readBit_21 ?_
    have hw := hw.2
    refine lv_istore_n (lv' := [(1, .int (vb (t_at).toNatClampNeg)), (0, .ref h_t)]) hx hb d_T_readBit_22 rfl hl (by decide) rfl (fun ls hl => ?_)
    refine lv_aload_n hx hb d_T_readBit_23 rfl (lv_at hl 1 rfl) ?_
    refine lv_dup hx hb d_T_readBit_24 rfl ?_
    refine gGet fx hK hP 0 rfl inT rfl (k := 2) (by decide) w_23 rfl d_T_readBit_25 ?_
    refine lv_iconst (v := (nI 1)) hx hb d_T_readBit_28 (by decide) ?_
    refine lv_iadd hx hb d_T_readBit_29 ?_
    refine gPut fx hK hP hD hS 0 rfl inT tyT nmT rfl (k := 2) (by decide) w_23 rfl rfl rfl (Nat.le_of_ble_eq_true rfl) d_T_readBit_30 (fun H locs hP hD hS => ?_)
    have hP : va_P D gCl [(h_t, .inr (1, [.ref h_b, .int t_size, .int (t_at + (nI 1))])), (h_b, .inl (cI, Nb, .inl vb))] H := hP
    have hD : va_D A [(h_t, .inr (1, [.ref h_b, .int t_size, .int (t_at + (nI 1))])), (h_b, .inl (cI, Nb, .inl vb))] := hD
    refine lv_iload_n hx hb d_T_readBit_33 rfl (lv_at hl 0 rfl) ?_
    exact hret _ _ _ (t_at + (nI 1)) _ _ hw rfl hP hD hS d_T_readBit_34
  · have hw := hw.2 c8
    refine lv_iconst (v := (-1)) hx hb d_T_readBit_11 (by decide) ?_
    exact hret _ _ _ t_at _ _ hw rfl hP hD hS d_T_readBit_12
def wpF_T_readNumber_4 (post : Int32 → Int32 → Prop) (Nb : Nat) (t_size : Int32) (vb : Nat → Int32) (x1 : Int32) (K_4 : Int32 → Int32 → Int32 → Prop) (t_at : Int32) (x2 : Int32) (x3 : Int32) : Prop :=
  ((x1 ≤ x3 → post x2 t_at) ∧ (¬ x1 ≤ x3 → wp_T_readBit (fun r_1 tat_2 => ((¬ r_1 = (-1) → K_4 tat_2 (((nI 2) * x2) + r_1) (x3 + (nI 1))) ∧ (r_1 = (-1) → post (-1) tat_2))) Nb t_size t_at vb))
def wp_T_readNumber (post : Int32 → Int32 → Prop) (Nb : Nat) (t_size : Int32) (t_at : Int32) (vb : Nat → Int32) (x1 : Int32) : Prop :=
  (∃ n, gL3 (wpF_T_readNumber_4 post Nb t_size vb x1) n t_at (nI 0) (nI 0))
abbrev rm_T_readNumber : Room := { frames := 1, cells := 0, slots := 0, locals := 21 }
theorem mf_T_readNumber : gFV y_T_readNumber b_T_readNumber 5 (some .int) 1 := ⟨w_131, w_2, ⟨by decide, by decide, by decide +kernel⟩, w_129, w_130⟩
set_option maxHeartbeats 4000000 in
set_option maxRecDepth 100000 in
theorem c_T_readNumber (l : Launch) (D : va_G) (cI : ClassId) (h_t : Nat) (h_b : Nat) (Nb : Nat) (t_size : Int32) (t_at : Int32) (vb : Nat → Int32) (x1 : Int32) (post : Int32 → Int32 → Prop) (hw : wp_T_readNumber post Nb t_size t_at vb x1) :
    gMi l D [(cI, .int)] y_T_readNumber b_T_readNumber 5 .int rm_T_readNumber [.ref h_t, .int x1] [(h_t, .inr (1, [.ref h_b, .int t_size, .int t_at])), (h_b, .inl (cI, Nb, .inl vb))] (S := Int32) (fun u => [(h_t, .inr (1, [.ref h_b, .int t_size, .int u])), (h_b, .inl (cI, Nb, .inl vb))]) (fun r u => post r u) := by
  rw [wp_T_readNumber] at hw
  refine gMi.of (by decide) (Nat.le_of_ble_eq_true rfl) (fun p e s m args below meth c A Q ls hx hb hml hown hts hN hK hA hP hD hret hl => ?_)
  have fx : CallFix p m c b_T_readNumber 5 s args gG "TapeCounter$Tape" := ⟨hx, hb, hml, hown, hts⟩
  have hl : lv_has ls 5 [(0, .ref h_t), (1, .int x1)] := hl
  have hS : va_S A s.heap s.heap [] := va_S.rf
  refine lv_iconst (v := (nI 0)) hx hb d_T_readNumber_0 (by decide) ?_
  refine lv_istore_n (lv' := [(2, .int (nI 0)), (0, .ref h_t), (1, .int x1)]) hx hb d_T_readNumber_1 rfl hl (by decide) rfl (fun ls hl => ?_)
  refine lv_iconst (v := (nI 0)) hx hb d_T_readNumber_2 (by decide) ?_
  refine lv_istore_n (lv' := [(3, .int (nI 0)), (2, .int (nI 0)), (0, .ref h_t), (1, .int x1)]) hx hb d_T_readNumber_3 rfl hl (by decide) rfl (fun ls hl => ?_)
  obtain ⟨n_4, hw⟩ := hw
  have k_4 : ∀ (n_4 : Nat) (t_at : Int32) (x2 : Int32) (x3 : Int32), gL3 (wpF_T_readNumber_4 post Nb t_size vb x1) n_4 t_at x2 x3 → ∀ (H : Heap) (locs : List Loc) (ls : Array Slot), va_P D gCl [(h_t, .inr (1, [.ref h_b, .int t_size, .int t_at])), (h_b, .inl (cI, Nb, .inl vb))] H → va_D A [(h_t, .inr (1, [.ref h_b, .int t_size, .int t_at])), (h_b, .inl (cI, Nb, .inl vb))] → va_S A s.heap H locs → lv_has ls 5 [(3, .int x3), (2, .int x2), (0, .ref h_t), (1, .int x1)] → W p l e rm_T_readNumber s m args below meth c H locs 0 0 Q (F0 m 4 ls []) := by
    clear hw hP hD hS hl
    intro n_4
    induction n_4 with
    | zero => exact fun _ _ _ h => h.elim
    | succ n_4 ih_4 =>
      intro t_at x2 x3 hw H locs ls hP hD hS hl
      have hw : wpF_T_readNumber_4 post Nb t_size vb x1 (gL3 (wpF_T_readNumber_4 post Nb t_size vb x1) n_4) t_at x2 x3 := hw
      rw [wpF_T_readNumber_4] at hw
      refine lv_iload_n hx hb d_T_readNumber_4 rfl (lv_at hl 0 rfl) ?_
      refine lv_iload_n hx hb d_T_readNumber_5 rfl (lv_at hl 3 rfl) ?_
      refine lv_icmp_ge (tgt := 36) hx hb d_T_readNumber_6 (by decide) (fun c6 => ?_) (fun c6 => ?_)
      · have hw := hw.1 c6
        refine lv_iload_n hx hb d_T_readNumber_36 rfl (lv_at hl 1 rfl) ?_
        exact hret _ _ _ t_at _ _ hw rfl hP hD hS d_T_readNumber_37
      · have hw := hw.2 c6
        refine lv_aload_n hx hb d_T_readNumber_9 rfl (lv_at hl 2 rfl) ?_
        refine g_cVi (wr := []) fx (c_T_readBit l D cI h_t h_b Nb t_size t_at vb _ hw) mf_T_readBit w_132 ⟨rfl, rfl⟩ ⟨Nat.le_of_ble_eq_true rfl, Nat.le_of_ble_eq_true rfl⟩ hN hK hA hP hD hS [0, 1] [] rfl rfl rfl rfl (by decide) 0 rfl rfl rfl rfl hl.1 (Nat.le_of_ble_eq_true rfl) d_T_readNumber_10 ⟨Nat.zero_le _, Nat.zero_le _⟩ (fun r_1 u H locs hw hP hD hS => ?_)
        obtain ⟨tat_2, rfl⟩ : ∃ z, z = u := ⟨_, rfl⟩
        try dsimp only at hw
        have hP : va_P D gCl [(h_t, .inr (1, [.ref h_b, .int t_size, .int tat_2])), (h_b, .inl (cI, Nb, .inl vb))] H := hP
        have hD : va_D A [(h_t, .inr (1, [.ref h_b, .int t_size, .int tat_2])), (h_b, .inl (cI, Nb, .inl vb))] := hD
        refine lv_istore (lv' := [(4, .int r_1), (3, .int x3), (2, .int x2), (0, .ref h_t), (1, .int x1)]) hx hb d_T_readNumber_13 hl (by decide) rfl (fun ls hl => ?_)
        refine lv_iload hx hb d_T_readNumber_15 (lv_at hl 0 rfl) ?_
        refine lv_iconst (v := (-1)) hx hb d_T_readNumber_17 (by decide) ?_
        refine lv_icmp_ne (tgt := 23) hx hb d_T_readNumber_18 (by decide) (fun c18 => ?_) (fun c18 => ?_)
        · have hw := hw.1 c18
          refine lv_iconst (v := (nI 2)) hx hb d_T_readNumber_23 (by decide) ?_
          refine lv_iload_n hx hb d_T_readNumber_24 rfl (lv_at hl 2 rfl) ?_
          refine lv_imul hx hb d_T_readNumber_25 ?_
          refine lv_iload hx hb d_T_readNumber_26 (lv_at hl 0 rfl) ?_
          refine lv_iadd hx hb d_T_readNumber_28 ?_
          refine lv_istore_n (lv' := [(2, .int (((nI 2) * x2) + r_1)), (4, .int r_1), (3, .int x3), (0, .ref h_t), (1, .int x1)]) hx hb d_T_readNumber_29 rfl hl (by decide) rfl (fun ls hl => ?_)
          refine lv_iinc (v := (x3 + (nI 1))) (lv' := [(3, .int (x3 + (nI 1))), (2, .int (((nI 2) * x2) + r_1)), (4, .int r_1), (0, .ref h_t), (1, .int x1)]) hx hb d_T_readNumber_30 hl (k := 2) rfl rfl (by decide) rfl (fun ls hl => ?_)
          refine lv_goto (tgt := 4) hx hb d_T_readNumber_33 (by decide) ?_
          exact ih_4 _ _ _ hw _ _ _ hP hD hS (lv_sub hl [0, 1, 3, 4] rfl)
        · have hw := hw.2 c18
          refine lv_iconst (v := (-1)) hx hb d_T_readNumber_21 (by decide) ?_
          exact hret _ _ _ tat_2 _ _ hw rfl hP hD hS d_T_readNumber_22
  exact k_4 n_4 _ _ _ hw _ _ _ hP hD hS (lv_sub hl [0, 1, 2, 3] rfl)
def wp_T_dropRead (post : Int32 → Int32 → (Nat → Int32) → Prop) (Nb : Nat) (t_size : Int32) (t_at : Int32) (vb : Nat → Int32) : Prop :=
  (¬ t_at < 0 ∧ ¬ (nI 0) < 0 ∧ ¬ (t_size - t_at) < 0 ∧ (t_at).toNatClampNeg + ((t_size - t_at)).toNatClampNeg ≤ Nb ∧ ((nI 0)).toNatClampNeg + ((t_size - t_at)).toNatClampNeg ≤ Nb ∧ post (t_size - t_at) (nI 0) (va_cpy vb vb (t_at).toNatClampNeg ((nI 0)).toNatClampNeg ((t_size - t_at)).toNatClampNeg))
abbrev rm_T_dropRead : Room := { frames := 1, cells := 0, slots := 0, locals := 40 }
theorem mf_T_dropRead : gFV y_T_dropRead b_T_dropRead 1 none 0 := ⟨w_171, w_2, ⟨by decide, by decide, by decide +kernel⟩, w_169, w_170⟩
set_option maxHeartbeats 4000000 in
set_option maxRecDepth 100000 in
theorem c_T_dropRead (l : Launch) (D : va_G) (cI : ClassId) (h_t : Nat) (h_b : Nat) (Nb : Nat) (t_size : Int32) (t_at : Int32) (vb : Nat → Int32) (post : Int32 → Int32 → (Nat → Int32) → Prop) (hw : wp_T_dropRead post Nb t_size t_at vb) :
    gMv l D [(cI, .int)] y_T_dropRead b_T_dropRead 1 rm_T_dropRead [.ref h_t] [(h_t, .inr (1, [.ref h_b, .int t_size, .int t_at])), (h_b, .inl (cI, Nb, .inl vb))] (S := Int32 × Int32 × (Nat → Int32)) (fun u => [(h_t, .inr (1, [.ref h_b, .int u.1, .int u.2.1])), (h_b, .inl (cI, Nb, .inl u.2.2))]) (fun u => post u.1 u.2.1 u.2.2) := by
  rw [wp_T_dropRead] at hw
  refine gMv.of (by decide) (Nat.le_of_ble_eq_true rfl) (fun p e s m args below meth c A Q ls hx hb hml hown hts hN hK hA hP hD hret hl => ?_)
  have fx : CallFix p m c b_T_dropRead 1 s args gG "TapeCounter$Tape" := ⟨hx, hb, hml, hown, hts⟩
  have hl : lv_has ls 1 [(0, .ref h_t)] := hl
  have hS : va_S A s.heap s.heap [] := va_S.rf
  refine lv_aload_n hx hb d_T_dropRead_0 rfl (lv_at hl 0 rfl) ?_
  refine gGet fx hK hP 0 rfl inT rfl (k := 0) (by decide) w_21 rfl d_T_dropRead_1 ?_
  refine lv_aload_n hx hb d_T_dropRead_4 rfl (lv_at hl 0 rfl) ?_
  refine gGet fx hK hP 0 rfl inT rfl (k := 2) (by decide) w_23 rfl d_T_dropRead_5 ?_
  refine lv_aload_n hx hb d_T_dropRead_8 rfl (lv_at hl 0 rfl) ?_
  refine gGet fx hK hP 0 rfl inT rfl (k := 0) (by decide) w_21 rfl d_T_dropRead_9 ?_
  refine lv_iconst (v := (nI 0)) hx hb d_T_dropRead_12 (by decide) ?_
  refine lv_aload_n hx hb d_T_dropRead_13 rfl (lv_at hl 0 rfl) ?_
  refine gGet fx hK hP 0 rfl inT rfl (k := 1) (by decide) w_22 rfl d_T_dropRead_14 ?_
  refine lv_aload_n hx hb d_T_dropRead_17 rfl (lv_at hl 0 rfl) ?_
  refine gGet fx hK hP 0 rfl inT rfl (k := 2) (by decide) w_23 rfl d_T_dropRead_18 ?_
  refine lv_isub hx hb d_T_dropRead_21 ?_
  refine va_copyi hx hb (hml.trans hl.1.symm) hown (hts _ w_172) (hts _ w_174) (hts _ w_173) (hts _ w_5) hK hP hD hS 1 1 0 0 rfl rfl rfl rfl rfl hw.1 hw.2.1 hw.2.2.1 hw.2.2.2.1 hw.2.2.2.2.1 (fun _ _ => rfl) (by decide) (Nat.le_of_ble_eq_true rfl) d_T_dropRead_22 (fun H locs hP hD hS => ?_)
  have hw := hw.2.2.2.2.2
  have hP : va_P D gCl [(h_t, .inr (1, [.ref h_b, .int t_size, .int t_at])), (h_b, .inl (cI, Nb, .inl (va_cpy vb vb (t_at).toNatClampNeg ((nI 0)).toNatClampNeg ((t_size - t_at)).toNatClampNeg)))] H := hP
  have hD : va_D A [(h_t, .inr (1, [.ref h_b, .int t_size, .int t_at])), (h_b, .inl (cI, Nb, .inl (va_cpy vb vb (t_at).toNatClampNeg ((nI 0)).toNatClampNeg ((t_size - t_at)).toNatClampNeg)))] := hD
  refine lv_aload_n hx hb d_T_dropRead_25 rfl (lv_at hl 0 rfl) ?_
  refine lv_dup hx hb d_T_dropRead_26 rfl ?_
  refine gGet fx hK hP 0 rfl inT rfl (k := 1) (by decide) w_22 rfl d_T_dropRead_27 ?_
  refine lv_aload_n hx hb d_T_dropRead_30 rfl (lv_at hl 0 rfl) ?_
  refine gGet fx hK hP 0 rfl inT rfl (k := 2) (by decide) w_23 rfl d_T_dropRead_31 ?_
  refine lv_isub hx hb d_T_dropRead_34 ?_
  refine gPut fx hK hP hD hS 0 rfl inT tyT nmT rfl (k := 1) (by decide) w_22 rfl rfl rfl (Nat.le_of_ble_eq_true rfl) d_T_dropRead_35 (fun H locs hP hD hS => ?_)
  have hP : va_P D gCl [(h_t, .inr (1, [.ref h_b, .int (t_size - t_at), .int t_at])), (h_b, .inl (cI, Nb, .inl (va_cpy vb vb (t_at).toNatClampNeg ((nI 0)).toNatClampNeg ((t_size - t_at)).toNatClampNeg)))] H := hP
  have hD : va_D A [(h_t, .inr (1, [.ref h_b, .int (t_size - t_at), .int t_at])), (h_b, .inl (cI, Nb, .inl (va_cpy vb vb (t_at).toNatClampNeg ((nI 0)).toNatClampNeg ((t_size - t_at)).toNatClampNeg)))] := hD
  refine lv_aload_n hx hb d_T_dropRead_38 rfl (lv_at hl 0 rfl) ?_
  refine lv_iconst (v := (nI 0)) hx hb d_T_dropRead_39 (by decide) ?_
  refine gPut fx hK hP hD hS 0 rfl inT tyT nmT rfl (k := 2) (by decide) w_23 rfl rfl rfl (Nat.le_of_ble_eq_true rfl) d_T_dropRead_40 (fun H locs hP hD hS => ?_)
  have hP : va_P D gCl [(h_t, .inr (1, [.ref h_b, .int (t_size - t_at), .int (nI 0)])), (h_b, .inl (cI, Nb, .inl (va_cpy vb vb (t_at).toNatClampNeg ((nI 0)).toNatClampNeg ((t_size - t_at)).toNatClampNeg)))] H := hP
  have hD : va_D A [(h_t, .inr (1, [.ref h_b, .int (t_size - t_at), .int (nI 0)])), (h_b, .inl (cI, Nb, .inl (va_cpy vb vb (t_at).toNatClampNeg ((nI 0)).toNatClampNeg ((t_size - t_at)).toNatClampNeg)))] := hD
  exact hret _ _ ((t_size - t_at), (nI 0), (va_cpy vb vb (t_at).toNatClampNeg ((nI 0)).toNatClampNeg ((t_size - t_at)).toNatClampNeg)) _ _ hw hP hD hS d_T_dropRead_43
