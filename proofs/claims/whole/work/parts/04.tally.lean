def wp_Y_clear (post : Int32 → Int32 → Int32 → Int32 → Prop) (y_hits : Int32) (y_runOuts : Int32) (y_bitsRead : Int32) (y_fewestBits : Int32) : Prop :=
  post (nI 0) (nI 0) (nI 0) (nI 13)
abbrev rm_Y_clear : Room := { frames := 0, cells := 0, slots := 0, locals := 0 }
theorem mf_Y_clear : gFV y_Y_clear b_Y_clear 1 none 0 := ⟨w_194, w_3, ⟨by decide, by decide, by decide +kernel⟩, w_192, w_193⟩
set_option maxHeartbeats 4000000 in
set_option maxRecDepth 100000 in
theorem c_Y_clear (l : Launch) (D : va_G) (cI : ClassId) (h_y : Nat) (y_hits : Int32) (y_runOuts : Int32) (y_bitsRead : Int32) (y_fewestBits : Int32) (post : Int32 → Int32 → Int32 → Int32 → Prop) (hw : wp_Y_clear post y_hits y_runOuts y_bitsRead y_fewestBits) :
    gMv l D [(cI, .int)] y_Y_clear b_Y_clear 1 rm_Y_clear [.ref h_y] [(h_y, .inr (0, [.int y_hits, .int y_runOuts, .int y_bitsRead, .int y_fewestBits]))] (S := Int32 × Int32 × Int32 × Int32) (fun u => [(h_y, .inr (0, [.int u.1, .int u.2.1, .int u.2.2.1, .int u.2.2.2]))]) (fun u => post u.1 u.2.1 u.2.2.1 u.2.2.2) := by
  rw [wp_Y_clear] at hw
  refine gMv.of (by decide) (Nat.le_of_ble_eq_true rfl) (fun p e s m args below meth c A Q ls hx hb hml hown hts hN hK hA hP hD hret hl => ?_)
  have fx : CallFix p m c b_Y_clear 1 s args gG "TapeCounter$Tally" := ⟨hx, hb, hml, hown, hts⟩
  have hl : lv_has ls 1 [(0, .ref h_y)] := hl
  have hS : va_S A s.heap s.heap [] := va_S.rf
  refine lv_aload_n hx hb d_Y_clear_0 rfl (lv_at hl 0 rfl) ?_
  refine lv_iconst (v := (nI 0)) hx hb d_Y_clear_1 (by decide) ?_
  refine gPut fx hK hP hD hS 0 rfl inY tyY nmY rfl (k := 0) (by decide) w_38 rfl rfl rfl (Nat.le_of_ble_eq_true rfl) d_Y_clear_2 (fun H locs hP hD hS => ?_)
  have hP : va_P D gCl [(h_y, .inr (0, [.int (nI 0), .int y_runOuts, .int y_bitsRead, .int y_fewestBits]))] H := hP
  have hD : va_D A [(h_y, .inr (0, [.int (nI 0), .int y_runOuts, .int y_bitsRead, .int y_fewestBits]))] := hD
  refine lv_aload_n hx hb d_Y_clear_5 rfl (lv_at hl 0 rfl) ?_
  refine lv_iconst (v := (nI 0)) hx hb d_Y_clear_6 (by decide) ?_
  refine gPut fx hK hP hD hS 0 rfl inY tyY nmY rfl (k := 1) (by decide) w_40 rfl rfl rfl (Nat.le_of_ble_eq_true rfl) d_Y_clear_7 (fun H locs hP hD hS => ?_)
  have hP : va_P D gCl [(h_y, .inr (0, [.int (nI 0), .int (nI 0), .int y_bitsRead, .int y_fewestBits]))] H := hP
  have hD : va_D A [(h_y, .inr (0, [.int (nI 0), .int (nI 0), .int y_bitsRead, .int y_fewestBits]))] := hD
  refine lv_aload_n hx hb d_Y_clear_10 rfl (lv_at hl 0 rfl) ?_
  refine lv_iconst (v := (nI 0)) hx hb d_Y_clear_11 (by decide) ?_
  refine gPut fx hK hP hD hS 0 rfl inY tyY nmY rfl (k := 2) (by decide) w_42 rfl rfl rfl (Nat.le_of_ble_eq_true rfl) d_Y_clear_12 (fun H locs hP hD hS => ?_)
  have hP : va_P D gCl [(h_y, .inr (0, [.int (nI 0), .int (nI 0), .int (nI 0), .int y_fewestBits]))] H := hP
  have hD : va_D A [(h_y, .inr (0, [.int (nI 0), .int (nI 0), .int (nI 0), .int y_fewestBits]))] := hD
  refine lv_aload_n hx hb d_Y_clear_15 rfl (lv_at hl 0 rfl) ?_
  refine lv_bipush (v := (nI 13)) hx hb d_Y_clear_16 (by decide) ?_
  refine gPut fx hK hP hD hS 0 rfl inY tyY nmY rfl (k := 3) (by decide) w_44 rfl rfl rfl (Nat.le_of_ble_eq_true rfl) d_Y_clear_18 (fun H locs hP hD hS => ?_)
  have hP : va_P D gCl [(h_y, .inr (0, [.int (nI 0), .int (nI 0), .int (nI 0), .int (nI 13)]))] H := hP
  have hD : va_D A [(h_y, .inr (0, [.int (nI 0), .int (nI 0), .int (nI 0), .int (nI 13)]))] := hD
  exact hret _ _ ((nI 0), (nI 0), (nI 0), (nI 13)) _ _ hw hP hD hS d_Y_clear_21
def wp_Y_add (post : Int32 → Int32 → Int32 → Int32 → Prop) (y_hits : Int32) (y_runOuts : Int32) (y_bitsRead : Int32) (y_fewestBits : Int32) (x1 : Int32) (x2 : Int32) (x3 : Int32) (x4 : Int32) : Prop :=
  ((¬ x1 = (-1) → ((¬ x1 = x2 → post y_hits y_runOuts (y_bitsRead + (x3 * x4)) y_fewestBits) ∧ (x1 = x2 → post (y_hits + x4) y_runOuts (y_bitsRead + (x3 * x4)) (if x3 < y_fewestBits then x3 else y_fewestBits)))) ∧ (x1 = (-1) → post y_hits (y_runOuts + x4) (y_bitsRead + (x3 * x4)) y_fewestBits))
abbrev rm_Y_add : Room := { frames := 1, cells := 0, slots := 0, locals := 40 }
theorem mf_Y_add : gFV y_Y_add b_Y_add 5 none 4 := ⟨w_202, w_3, ⟨by decide, by decide, by decide +kernel⟩, w_200, w_201⟩
set_option maxHeartbeats 4000000 in
set_option maxRecDepth 100000 in
theorem c_Y_add (l : Launch) (D : va_G) (cI : ClassId) (h_y : Nat) (y_hits : Int32) (y_runOuts : Int32) (y_bitsRead : Int32) (y_fewestBits : Int32) (x1 : Int32) (x2 : Int32) (x3 : Int32) (x4 : Int32) (post : Int32 → Int32 → Int32 → Int32 → Prop) (hw : wp_Y_add post y_hits y_runOuts y_bitsRead y_fewestBits x1 x2 x3 x4) :
    gMv l D [(cI, .int)] y_Y_add b_Y_add 5 rm_Y_add [.ref h_y, .int x1, .int x2, .int x3, .int x4] [(h_y, .inr (0, [.int y_hits, .int y_runOuts, .int y_bitsRead, .int y_fewestBits]))] (S := Int32 × Int32 × Int32 × Int32) (fun u => [(h_y, .inr (0, [.int u.1, .int u.2.1, .int u.2.2.1, .int u.2.2.2]))]) (fun u => post u.1 u.2.1 u.2.2.1 u.2.2.2) := by
  rw [wp_Y_add] at hw
  refine gMv.of (by decide) (Nat.le_of_ble_eq_true rfl) (fun p e s m args below meth c A Q ls hx hb hml hown hts hN hK hA hP hD hret hl => ?_)
  have fx : CallFix p m c b_Y_add 5 s args gG "TapeCounter$Tally" := ⟨hx, hb, hml, hown, hts⟩
  have hl : lv_has ls 5 [(0, .ref h_y), (1, .int x1), (2, .int x2), (3, .int x3), (4, .int x4)] := hl
  have hS : va_S A s.heap s.heap [] := va_S.rf
  refine lv_aload_n hx hb d_Y_add_0 rfl (lv_at hl 0 rfl) ?_
  refine lv_dup hx hb d_Y_add_1 rfl ?_
  refine gGet fx hK hP 0 rfl inY rfl (k := 2) (by decide) w_42 rfl d_Y_add_2 ?_
  refine lv_iload_n hx hb d_Y_add_5 rfl (lv_at hl 3 rfl) ?_
  refine lv_iload hx hb d_Y_add_6 (lv_at hl 4 rfl) ?_
  refine lv_imul hx hb d_Y_add_8 ?_
  refine lv_iadd hx hb d_Y_add_9 ?_
  refine gPut fx hK hP hD hS 0 rfl inY tyY nmY rfl (k := 2) (by decide) w_42 rfl rfl rfl (Nat.le_of_ble_eq_true rfl) d_Y_add_10 (fun H locs hP hD hS => ?_)
  have hP : va_P D gCl [(h_y, .inr (0, [.int y_hits, .int y_runOuts, .int (y_bitsRead + (x3 * x4)), .int y_fewestBits]))] H := hP
  have hD : va_D A [(h_y, .inr (0, [.int y_hits, .int y_runOuts, .int (y_bitsRead + (x3 * x4)), .int y_fewestBits]))] := hD
  refine lv_iload_n hx hb d_Y_add_13 rfl (lv_at hl 1 rfl) ?_
  refine lv_iconst (v := (-1)) hx hb d_Y_add_14 (by decide) ?_
  refine lv_icmp_ne (tgt := 32) hx hb d_Y_add_15 (by decide) (fun c15 => ?_) (fun c15 => ?_)
  · have hw := hw.1 c15
    refine lv_iload_n hx hb d_Y_add_32 rfl (lv_at hl 1 rfl) ?_
    refine lv_iload_n hx hb d_Y_add_33 rfl (lv_at hl 2 rfl) ?_
    refine lv_icmp_ne (tgt := 60) hx hb d_Y_add_34 (by decide) (fun c34 => ?_) (fun c34 => ?_)
    · have hw := hw.1 c34
      exact hret _ _ (y_hits, y_runOuts, (y_bitsRead + (x3 * x4)), y_fewestBits) _ _ hw hP hD hS d_Y_add_60
    · have hw := hw.2 c34
      refine lv_aload_n hx hb d_Y_add_37 rfl (lv_at hl 0 rfl) ?_
      refine lv_dup hx hb d_Y_add_38 rfl ?_
      refine gGet fx hK hP 0 rfl inY rfl (k := 0) (by decide) w_38 rfl d_Y_add_39 ?_
      refine lv_iload hx hb d_Y_add_42 (lv_at hl 4 rfl) ?_
      refine lv_iadd hx hb d_Y_add_44 ?_
      refine gPut fx hK hP hD hS 0 rfl inY tyY nmY rfl (k := 0) (by decide) w_38 rfl rfl rfl (Nat.le_of_ble_eq_true rfl) d_Y_add_45 (fun H locs hP hD hS => ?_)
      have hP : va_P D gCl [(h_y, .inr (0, [.int (y_hits + x4), .int y_runOuts, .int (y_bitsRead + (x3 * x4)), .int y_fewestBits]))] H := hP
      have hD : va_D A [(h_y, .inr (0, [.int (y_hits + x4), .int y_runOuts, .int (y_bitsRead + (x3 * x4)), .int y_fewestBits]))] := hD
      refine lv_aload_n hx hb d_Y_add_48 rfl (lv_at hl 0 rfl) ?_
      refine lv_aload_n hx hb d_Y_add_49 rfl (lv_at hl 0 rfl) ?_
      refine gGet fx hK hP 0 rfl inY rfl (k := 3) (by decide) w_44 rfl d_Y_add_50 ?_
      refine lv_iload_n hx hb d_Y_add_53 rfl (lv_at hl 3 rfl) ?_
      refine va_mmin hx hb (hml.trans hl.1.symm) hown (hts _ w_203) (hts _ w_204) (hts _ w_6) (hts _ w_205) (by decide) (Nat.le_of_ble_eq_true rfl) (Nat.zero_le _) (Nat.zero_le _) d_Y_add_54 ?_
      refine gPut fx hK hP hD hS 0 rfl inY tyY nmY rfl (k := 3) (by decide) w_44 rfl rfl rfl (Nat.le_of_ble_eq_true rfl) d_Y_add_57 (fun H locs hP hD hS => ?_)
      have hP : va_P D gCl [(h_y, .inr (0, [.int (y_hits + x4), .int y_runOuts, .int (y_bitsRead + (x3 * x4)), .int (if x3 < y_fewestBits then x3 else y_fewestBits)]))] H := hP
      have hD : va_D A [(h_y, .inr (0, [.int (y_hits + x4), .int y_runOuts, .int (y_bitsRead + (x3 * x4)), .int (if x3 < y_fewestBits then x3 else y_fewestBits)]))] := hD
      exact hret _ _ ((y_hits + x4), y_runOuts, (y_bitsRead + (x3 * x4)), (if x3 < y_fewestBits then x3 else y_fewestBits)) _ _ hw hP hD hS d_Y_add_60
  · have hw := hw.2 c15
    refine lv_aload_n hx hb d_Y_add_18 rfl (lv_at hl 0 rfl) ?_
    refine lv_dup hx hb d_Y_add_19 rfl ?_
    refine gGet fx hK hP 0 rfl inY rfl (k := 1) (by decide) w_40 rfl d_Y_add_20 ?_
    refine lv_iload hx hb d_Y_add_23 (lv_at hl 4 rfl) ?_
    refine lv_iadd hx hb d_Y_add_25 ?_
    refine gPut fx hK hP hD hS 0 rfl inY tyY nmY rfl (k := 1) (by decide) w_40 rfl rfl rfl (Nat.le_of_ble_eq_true rfl) d_Y_add_26 (fun H locs hP hD hS => ?_)
    have hP : va_P D gCl [(h_y, .inr (0, [.int y_hits, .int (y_runOuts + x4), .int (y_bitsRead + (x3 * x4)), .int y_fewestBits]))] H := hP
    have hD : va_D A [(h_y, .inr (0, [.int y_hits, .int (y_runOuts + x4), .int (y_bitsRead + (x3 * x4)), .int y_fewestBits]))] := hD
    refine lv_goto (tgt := 60) hx hb d_Y_add_29 (by decide) ?_
    exact hret _ _ (y_hits, (y_runOuts + x4), (y_bitsRead + (x3 * x4)), y_fewestBits) _ _ hw hP hD hS d_Y_add_60
