abbrev rm_Y_init : Room := { frames := 1, cells := 0, slots := 0, locals := 20 }
theorem mf_Y_init : gFI y_Y_init b_Y_init 1 0 := ⟨w_36, w_3, ⟨by decide, by decide, by decide +kernel⟩, w_35, rfl⟩
set_option maxHeartbeats 4000000 in
set_option maxRecDepth 100000 in
theorem c_Y_init (l : Launch) (D : va_G) (cI : ClassId) (h_y : Nat) :
    gMc l D [(cI, .int)] y_Y_init b_Y_init 1 rm_Y_init [.ref h_y] [(h_y, .inr (0, [.int (nI 0), .int (nI 0), .int (nI 0), .int (nI 0)]))] (S := Unit) (fun u => [(h_y, .inr (0, [.int (nI 0), .int (nI 0), .int (nI 0), .int (nI 0)]))]) (fun u => True) 0 0 := by
  refine gMc.of (by decide) (Nat.le_of_ble_eq_true rfl) (fun p e s m args below meth c A Q ls hx hb hml hown hts hN hK hA hP hD hnm hret hl => ?_)
  have hnm : meth.name = "<init>" := hnm
  have fx : CallFix p m c b_Y_init 1 s args gG "TapeCounter$Tally" := ⟨hx, hb, hml, hown, hts⟩
  have hl : lv_has ls 1 [(0, .ref h_y)] := hl
  have hS : va_S A s.heap s.heap [] := va_S.rf
  have hw : True := trivial
  refine lv_aload_n hx hb d_Y_init_0 rfl (lv_at hl 0 rfl) ?_
  refine gObj fx hl.1 w_37 w_13 w_14 (Nat.le_of_ble_eq_true rfl) (Nat.le_of_ble_eq_true rfl) d_Y_init_1 ?_
  refine W.widen (k := 0) (n := 0) (by first | exact Nat.le_of_ble_eq_true rfl | (show _ ≤ Nb; omega)) (by first | exact Nat.le_of_ble_eq_true rfl | (show _ ≤ Nb; omega)) ?_
  exact hret _ _ () _ _ trivial hP hD hS d_Y_init_4
abbrev rm_T_init (Nb : Nat) : Room := { frames := 1, cells := 1, slots := Nb, locals := 20 }
theorem mf_T_init : gFI y_T_init b_T_init 2 1 := ⟨w_19, w_2, ⟨by decide, by decide, by decide +kernel⟩, w_18, rfl⟩
set_option maxHeartbeats 4000000 in
set_option maxRecDepth 100000 in
theorem c_T_init (l : Launch) (D : va_G) (cI : ClassId) (h_t : Nat) (Nb : Nat) (hNb : Nb ≤ 256) :
    gMc l D [(cI, .int)] y_T_init b_T_init 2 (rm_T_init Nb) [.ref h_t, .int (nI Nb)] [(h_t, .inr (1, [.null, .int (nI 0), .int (nI 0)]))] (S := Nat) (fun u => [(h_t, .inr (1, [.ref u, .int (nI 0), .int (nI 0)])), (u, .inl (cI, Nb, .inl (fun _ => 0)))]) (fun u => True) 1 Nb := by
  refine gMc.of (by decide) (Nat.le_of_ble_eq_true rfl) (fun p e s m args below meth c A Q ls hx hb hml hown hts hN hK hA hP hD hnm hret hl => ?_)
  have hnm : meth.name = "<init>" := hnm
  have fx : CallFix p m c b_T_init 2 s args gG "TapeCounter$Tape" := ⟨hx, hb, hml, hown, hts⟩
  have hl : lv_has ls 2 [(0, .ref h_t), (1, .int (nI Nb))] := hl
  have hS : va_S A s.heap s.heap [] := va_S.rf
  have hw : True := trivial
  refine lv_aload_n hx hb d_T_init_0 rfl (lv_at hl 0 rfl) ?_
  refine gObj fx hl.1 w_20 w_13 w_14 (Nat.le_of_ble_eq_true rfl) (Nat.le_of_ble_eq_true rfl) d_T_init_1 ?_
  refine lv_aload_n hx hb d_T_init_4 rfl (lv_at hl 0 rfl) ?_
  refine lv_iload_n hx hb d_T_init_5 rfl (lv_at hl 1 rfl) ?_
  refine gNewa (N' := Nb) fx w_31 hK hA hP hD hS (nI_pos (by omega)) (nI_clamp (by omega)) (by omega) (by first | exact Nat.le_of_ble_eq_true rfl | (show _ ≤ Nb; omega)) (by first | exact Nat.le_of_ble_eq_true rfl | (show _ ≤ Nb; omega)) d_T_init_6 (fun h_b H hP hD hS => ?_)
  have hP : va_P D gCl [(h_t, .inr (1, [.null, .int (nI 0), .int (nI 0)])), (h_b, .inl (cI, Nb, .inl (fun _ => 0)))] H := hP
  have hD : va_D A [(h_t, .inr (1, [.null, .int (nI 0), .int (nI 0)])), (h_b, .inl (cI, Nb, .inl (fun _ => 0)))] := hD
  refine gPutF fx hnm hK hP hD hS 0 rfl inT tyT nmT rfl (k := 0) (by decide) w_21 rfl rfl rfl rfl (Nat.le_of_ble_eq_true rfl) d_T_init_8 (fun H locs hP hD hS => ?_)
  have hP : va_P D gCl [(h_t, .inr (1, [.ref h_b, .int (nI 0), .int (nI 0)])), (h_b, .inl (cI, Nb, .inl (fun _ => 0)))] H := hP
  have hD : va_D A [(h_t, .inr (1, [.ref h_b, .int (nI 0), .int (nI 0)])), (h_b, .inl (cI, Nb, .inl (fun _ => 0)))] := hD
  refine lv_aload_n hx hb d_T_init_11 rfl (lv_at hl 0 rfl) ?_
  refine lv_iconst (v := (nI 0)) hx hb d_T_init_12 (by decide) ?_
  refine gPut fx hK hP hD hS 0 rfl inT tyT nmT rfl (k := 1) (by decide) w_22 rfl rfl rfl (Nat.le_of_ble_eq_true rfl) d_T_init_13 (fun H locs hP hD hS => ?_)
  have hP : va_P D gCl [(h_t, .inr (1, [.ref h_b, .int (nI 0), .int (nI 0)])), (h_b, .inl (cI, Nb, .inl (fun _ => 0)))] H := hP
  have hD : va_D A [(h_t, .inr (1, [.ref h_b, .int (nI 0), .int (nI 0)])), (h_b, .inl (cI, Nb, .inl (fun _ => 0)))] := hD
  refine lv_aload_n hx hb d_T_init_16 rfl (lv_at hl 0 rfl) ?_
  refine lv_iconst (v := (nI 0)) hx hb d_T_init_17 (by decide) ?_
  refine gPut fx hK hP hD hS 0 rfl inT tyT nmT rfl (k := 2) (by decide) w_23 rfl rfl rfl (Nat.le_of_ble_eq_true rfl) d_T_init_18 (fun H locs hP hD hS => ?_)
  have hP : va_P D gCl [(h_t, .inr (1, [.ref h_b, .int (nI 0), .int (nI 0)])), (h_b, .inl (cI, Nb, .inl (fun _ => 0)))] H := hP
  have hD : va_D A [(h_t, .inr (1, [.ref h_b, .int (nI 0), .int (nI 0)])), (h_b, .inl (cI, Nb, .inl (fun _ => 0)))] := hD
  refine W.widen (k := 1) (n := Nb) (by first | exact Nat.le_of_ble_eq_true rfl | (show _ ≤ Nb; omega)) (by first | exact Nat.le_of_ble_eq_true rfl | (show _ ≤ Nb; omega)) ?_
  exact hret _ _ h_b _ _ trivial hP hD hS d_T_init_21
def wpF_C_init_14 (post : (Nat → Int32) → Prop) (K_14 : (Nat → Int32) → Int32 → Prop) (vw : Nat → Int32) (x1 : Int32) : Prop :=
  (((nI 8) ≤ x1 → post vw) ∧ (¬ (nI 8) ≤ x1 → (vp_in x1 8 ∧ K_14 (upd vw (x1).toNatClampNeg (nI 1)) (x1 + (nI 1)))))
def wp_C_init (post : (Nat → Int32) → Prop) : Prop :=
  (∃ n, gL2 (wpF_C_init_14 post) n (fun _ => 0) (nI 0))
abbrev rm_C_init : Room := { frames := 2, cells := 7, slots := 290, locals := 41 }
theorem mf_C_init : gFI y_C_init b_C_init 2 0 := ⟨w_11, w_1, ⟨by decide, by decide, by decide +kernel⟩, w_10, rfl⟩
set_option maxHeartbeats 4000000 in
set_option maxRecDepth 100000 in
theorem c_C_init (l : Launch) (D : va_G) (cI : ClassId) (h_c : Nat) (post : (Nat → Int32) → Prop) (hw : wp_C_init post) :
    gMc l D [(cI, .int)] y_C_init b_C_init 2 rm_C_init [.ref h_c] [(h_c, .inr (2, [.null, .null, .null, .null, .null, .int (nI 0)]))] (S := Nat × Nat × Nat × Nat × Nat × Nat × Nat × (Nat → Int32)) (fun u => [(h_c, .inr (2, [.ref u.1, .ref u.2.1, .ref u.2.2.1, .ref u.2.2.2.2.1, .ref u.2.2.2.2.2.2.1, .int (nI 0)])), (u.1, .inl (cI, 8, .inl u.2.2.2.2.2.2.2)), (u.2.1, .inl (cI, 4, .inl (fun _ => 0))), (u.2.2.1, .inr (1, [.ref u.2.2.2.1, .int (nI 0), .int (nI 0)])), (u.2.2.2.1, .inl (cI, 256, .inl (fun _ => 0))), (u.2.2.2.2.1, .inr (1, [.ref u.2.2.2.2.2.1, .int (nI 0), .int (nI 0)])), (u.2.2.2.2.2.1, .inl (cI, 12, .inl (fun _ => 0))), (u.2.2.2.2.2.2.1, .inr (0, [.int (nI 0), .int (nI 0), .int (nI 0), .int (nI 0)]))]) (fun u => post u.2.2.2.2.2.2.2) 7 290 := by
  rw [wp_C_init] at hw
  refine gMc.of (by decide) (Nat.le_of_ble_eq_true rfl) (fun p e s m args below meth c A Q ls hx hb hml hown hts hN hK hA hP hD hnm hret hl => ?_)
  have hnm : meth.name = "<init>" := hnm
  have fx : CallFix p m c b_C_init 2 s args gG "TapeCounter" := ⟨hx, hb, hml, hown, hts⟩
  have hl : lv_has ls 2 [(0, .ref h_c)] := hl
  have hS : va_S A s.heap s.heap [] := va_S.rf
  refine lv_aload_n hx hb d_C_init_0 rfl (lv_at hl 0 rfl) ?_
  refine gObj fx hl.1 w_12 w_13 w_14 (Nat.le_of_ble_eq_true rfl) (Nat.le_of_ble_eq_true rfl) d_C_init_1 ?_
  refine lv_aload_n hx hb d_C_init_4 rfl (lv_at hl 0 rfl) ?_
  refine lv_bipush (v := (nI 8)) hx hb d_C_init_5 (by decide) ?_
  refine gNewa (N' := 8) fx w_31 hK hA hP hD hS (by decide) (by decide) (by decide) (by first | exact Nat.le_of_ble_eq_true rfl | (show _ ≤ Nb; omega)) (by first | exact Nat.le_of_ble_eq_true rfl | (show _ ≤ Nb; omega)) d_C_init_7 (fun h_w H hP hD hS => ?_)
  have hP : va_P D gCl [(h_c, .inr (2, [.null, .null, .null, .null, .null, .int (nI 0)])), (h_w, .inl (cI, 8, .inl (fun _ => 0)))] H := hP
  have hD : va_D A [(h_c, .inr (2, [.null, .null, .null, .null, .null, .int (nI 0)])), (h_w, .inl (cI, 8, .inl (fun _ => 0)))] := hD
  refine gPutF fx hnm hK hP hD hS 0 rfl inC tyC nmC rfl (k := 0) (by decide) w_55 rfl rfl rfl rfl (Nat.le_of_ble_eq_true rfl) d_C_init_9 (fun H locs hP hD hS => ?_)
  have hP : va_P D gCl [(h_c, .inr (2, [.ref h_w, .null, .null, .null, .null, .int (nI 0)])), (h_w, .inl (cI, 8, .inl (fun _ => 0)))] H := hP
  have hD : va_D A [(h_c, .inr (2, [.ref h_w, .null, .null, .null, .null, .int (nI 0)])), (h_w, .inl (cI, 8, .inl (fun _ => 0)))] := hD
  refine lv_iconst (v := (nI 0)) hx hb d_C_init_12 (by decide) ?_
  refine lv_istore_n (lv' := [(1, .int (nI 0)), (0, .ref h_c)]) hx hb d_C_init_13 rfl hl (by decide) rfl (fun ls hl => ?_)
  obtain ⟨n_14, hw⟩ := hw
  have k_14 : ∀ (n_14 : Nat) (vw : Nat → Int32) (x1 : Int32), gL2 (wpF_C_init_14 post) n_14 vw x1 → ∀ (H : Heap) (locs : List Loc) (ls : Array Slot), va_P D gCl [(h_c, .inr (2, [.ref h_w, .null, .null, .null, .null, .int (nI 0)])), (h_w, .inl (cI, 8, .inl vw))] H → va_D A [(h_c, .inr (2, [.ref h_w, .null, .null, .null, .null, .int (nI 0)])), (h_w, .inl (cI, 8, .inl vw))] → va_S A s.heap H locs → lv_has ls 2 [(1, .int x1), (0, .ref h_c)] → W p l e rm_C_init s m args below meth c H locs (0 + 1) (0 + 8) Q (F0 m 14 ls []) := by
    clear hw hP hD hS hl
    intro n_14
    induction n_14 with
    | zero => exact fun _ _ h => h.elim
    | succ n_14 ih_14 =>
      intro vw x1 hw H locs ls hP hD hS hl
      have hw : wpF_C_init_14 post (gL2 (wpF_C_init_14 post) n_14) vw x1 := hw
      rw [wpF_C_init_14] at hw
      refine lv_iload_n hx hb d_C_init_14 rfl (lv_at hl 0 rfl) ?_
      refine lv_bipush (v := (nI 8)) hx hb d_C_init_15 (by decide) ?_
      refine lv_icmp_ge (tgt := 33) hx hb d_C_init_17 (by decide) (fun c17 => ?_) (fun c17 => ?_)
      · have hw := hw.1 c17
        refine lv_aload_n hx hb d_C_init_33 rfl (lv_at hl 1 rfl) ?_
        refine lv_iconst (v := (nI 4)) hx hb d_C_init_34 (by decide) ?_
        refine gNewa (N' := 4) fx w_31 hK hA hP hD hS (by decide) (by decide) (by decide) (by first | exact Nat.le_of_ble_eq_true rfl | (show _ ≤ Nb; omega)) (by first | exact Nat.le_of_ble_eq_true rfl | (show _ ≤ Nb; omega)) d_C_init_35 (fun h_r H hP hD hS => ?_)
        have hP : va_P D gCl [(h_c, .inr (2, [.ref h_w, .null, .null, .null, .null, .int (nI 0)])), (h_w, .inl (cI, 8, .inl vw)), (h_r, .inl (cI, 4, .inl (fun _ => 0)))] H := hP
        have hD : va_D A [(h_c, .inr (2, [.ref h_w, .null, .null, .null, .null, .int (nI 0)])), (h_w, .inl (cI, 8, .inl vw)), (h_r, .inl (cI, 4, .inl (fun _ => 0)))] := hD
        refine gPutF fx hnm hK hP hD hS 0 rfl inC tyC nmC rfl (k := 1) (by decide) w_56 rfl rfl rfl rfl (Nat.le_of_ble_eq_true rfl) d_C_init_37 (fun H locs hP hD hS => ?_)
        have hP : va_P D gCl [(h_c, .inr (2, [.ref h_w, .ref h_r, .null, .null, .null, .int (nI 0)])), (h_w, .inl (cI, 8, .inl vw)), (h_r, .inl (cI, 4, .inl (fun _ => 0)))] H := hP
        have hD : va_D A [(h_c, .inr (2, [.ref h_w, .ref h_r, .null, .null, .null, .int (nI 0)])), (h_w, .inl (cI, 8, .inl vw)), (h_r, .inl (cI, 4, .inl (fun _ => 0)))] := hD
        refine lv_aload_n hx hb d_C_init_40 rfl (lv_at hl 1 rfl) ?_
        refine gNew (ci := 1) (fs := [.null, .int (nI 0), .int (nI 0)]) (N := 3) fx hK hA hP hD hS inT tyT rfl w_15 w_16 w_2 (fun j hj => by rcases (show j = 0 ∨ j = 1 ∨ j = 2 by omega) with rfl | rfl | rfl <;> rfl) (by first | exact Nat.le_of_ble_eq_true rfl | (show _ ≤ Nb; omega)) (by first | exact Nat.le_of_ble_eq_true rfl | (show _ ≤ Nb; omega)) d_C_init_41 (fun h_t H hP hD hS => ?_)
        have hP : va_P D gCl [(h_c, .inr (2, [.ref h_w, .ref h_r, .null, .null, .null, .int (nI 0)])), (h_w, .inl (cI, 8, .inl vw)), (h_r, .inl (cI, 4, .inl (fun _ => 0))), (h_t, .inr (1, [.null, .int (nI 0), .int (nI 0)]))] H := hP
        have hD : va_D A [(h_c, .inr (2, [.ref h_w, .ref h_r, .null, .null, .null, .int (nI 0)])), (h_w, .inl (cI, 8, .inl vw)), (h_r, .inl (cI, 4, .inl (fun _ => 0))), (h_t, .inr (1, [.null, .int (nI 0), .int (nI 0)]))] := hD
        refine lv_dup hx hb d_C_init_44 rfl ?_
        refine lv_sipush (v := (nI 256)) hx hb d_C_init_45 (by decide) ?_
        refine g_cI (wr := [(h_c, .inr (2, [.ref h_w, .ref h_r, .null, .null, .null, .int (nI 0)])), (h_w, .inl (cI, 8, .inl vw)), (h_r, .inl (cI, 4, .inl (fun _ => 0)))]) fx (c_T_init l D cI h_t 256 (by decide)) mf_T_init w_17 ⟨rfl, rfl⟩ ⟨Nat.le_of_ble_eq_true rfl, Nat.le_of_ble_eq_true rfl⟩ hN hK hA hP hD hS [3] [0, 1, 2] rfl rfl rfl rfl (by decide) rfl rfl hl.1 (Nat.le_of_ble_eq_true rfl) d_C_init_48 ⟨(by first | exact Nat.le_of_ble_eq_true rfl | (show _ ≤ Nb; omega)), (by first | exact Nat.le_of_ble_eq_true rfl | (show _ ≤ Nb; omega))⟩ (fun u H locs _ hP hD hS => ?_)
        obtain ⟨h_b, rfl⟩ : ∃ z, z = u := ⟨_, rfl⟩
        have hP : va_P D gCl [(h_c, .inr (2, [.ref h_w, .ref h_r, .null, .null, .null, .int (nI 0)])), (h_w, .inl (cI, 8, .inl vw)), (h_r, .inl (cI, 4, .inl (fun _ => 0))), (h_t, .inr (1, [.ref h_b, .int (nI 0), .int (nI 0)])), (h_b, .inl (cI, 256, .inl (fun _ => 0)))] H := hP
        have hD : va_D A [(h_c, .inr (2, [.ref h_w, .ref h_r, .null, .null, .null, .int (nI 0)])), (h_w, .inl (cI, 8, .inl vw)), (h_r, .inl (cI, 4, .inl (fun _ => 0))), (h_t, .inr (1, [.ref h_b, .int (nI 0), .int (nI 0)])), (h_b, .inl (cI, 256, .inl (fun _ => 0)))] := hD
        refine gPutF fx hnm hK hP hD hS 0 rfl inC tyC nmC rfl (k := 2) (by decide) w_57 rfl rfl rfl rfl (Nat.le_of_ble_eq_true rfl) d_C_init_51 (fun H locs hP hD hS => ?_)
        have hP : va_P D gCl [(h_c, .inr (2, [.ref h_w, .ref h_r, .ref h_t, .null, .null, .int (nI 0)])), (h_w, .inl (cI, 8, .inl vw)), (h_r, .inl (cI, 4, .inl (fun _ => 0))), (h_t, .inr (1, [.ref h_b, .int (nI 0), .int (nI 0)])), (h_b, .inl (cI, 256, .inl (fun _ => 0)))] H := hP
        have hD : va_D A [(h_c, .inr (2, [.ref h_w, .ref h_r, .ref h_t, .null, .null, .int (nI 0)])), (h_w, .inl (cI, 8, .inl vw)), (h_r, .inl (cI, 4, .inl (fun _ => 0))), (h_t, .inr (1, [.ref h_b, .int (nI 0), .int (nI 0)])), (h_b, .inl (cI, 256, .inl (fun _ => 0)))] := hD
        refine lv_aload_n hx hb d_C_init_54 rfl (lv_at hl 1 rfl) ?_
        refine gNew (ci := 1) (fs := [.null, .int (nI 0), .int (nI 0)]) (N := 3) fx hK hA hP hD hS inT tyT rfl w_15 w_16 w_2 (fun j hj => by rcases (show j = 0 ∨ j = 1 ∨ j = 2 by omega) with rfl | rfl | rfl <;> rfl) (by first | exact Nat.le_of_ble_eq_true rfl | (show _ ≤ Nb; omega)) (by first | exact Nat.le_of_ble_eq_true rfl | (show _ ≤ Nb; omega)) d_C_init_55 (fun h_k H hP hD hS => ?_)
        have hP : va_P D gCl [(h_c, .inr (2, [.ref h_w, .ref h_r, .ref h_t, .null, .null, .int (nI 0)])), (h_w, .inl (cI, 8, .inl vw)), (h_r, .inl (cI, 4, .inl (fun _ => 0))), (h_t, .inr (1, [.ref h_b, .int (nI 0), .int (nI 0)])), (h_b, .inl (cI, 256, .inl (fun _ => 0))), (h_k, .inr (1, [.null, .int (nI 0), .int (nI 0)]))] H := hP
        have hD : va_D A [(h_c, .inr (2, [.ref h_w, .ref h_r, .ref h_t, .null, .null, .int (nI 0)])), (h_w, .inl (cI, 8, .inl vw)), (h_r, .inl (cI, 4, .inl (fun _ => 0))), (h_t, .inr (1, [.ref h_b, .int (nI 0), .int (nI 0)])), (h_b, .inl (cI, 256, .inl (fun _ => 0))), (h_k, .inr (1, [.null, .int (nI 0), .int (nI 0)]))] := hD
        refine lv_dup hx hb d_C_init_58 rfl ?_
        refine lv_bipush (v := (nI 12)) hx hb d_C_init_59 (by decide) ?_
        refine g_cI (wr := [(h_c, .inr (2, [.ref h_w, .ref h_r, .ref h_t, .null, .null, .int (nI 0)])), (h_w, .inl (cI, 8, .inl vw)), (h_r, .inl (cI, 4, .inl (fun _ => 0))), (h_t, .inr (1, [.ref h_b, .int (nI 0), .int (nI 0)])), (h_b, .inl (cI, 256, .inl (fun _ => 0)))]) fx (c_T_init l D cI h_k 12 (by decide)) mf_T_init w_17 ⟨rfl, rfl⟩ ⟨Nat.le_of_ble_eq_true rfl, Nat.le_of_ble_eq_true rfl⟩ hN hK hA hP hD hS [5] [0, 1, 2, 3, 4] rfl rfl rfl rfl (by decide) rfl rfl hl.1 (Nat.le_of_ble_eq_true rfl) d_C_init_61 ⟨(by first | exact Nat.le_of_ble_eq_true rfl | (show _ ≤ Nb; omega)), (by first | exact Nat.le_of_ble_eq_true rfl | (show _ ≤ Nb; omega))⟩ (fun u H locs _ hP hD hS => ?_)
        obtain ⟨h_kb, rfl⟩ : ∃ z, z = u := ⟨_, rfl⟩
        have hP : va_P D gCl [(h_c, .inr (2, [.ref h_w, .ref h_r, .ref h_t, .null, .null, .int (nI 0)])), (h_w, .inl (cI, 8, .inl vw)), (h_r, .inl (cI, 4, .inl (fun _ => 0))), (h_t, .inr (1, [.ref h_b, .int (nI 0), .int (nI 0)])), (h_b, .inl (cI, 256, .inl (fun _ => 0))), (h_k, .inr (1, [.ref h_kb, .int (nI 0), .int (nI 0)])), (h_kb, .inl (cI, 12, .inl (fun _ => 0)))] H := hP
        have hD : va_D A [(h_c, .inr (2, [.ref h_w, .ref h_r, .ref h_t, .null, .null, .int (nI 0)])), (h_w, .inl (cI, 8, .inl vw)), (h_r, .inl (cI, 4, .inl (fun _ => 0))), (h_t, .inr (1, [.ref h_b, .int (nI 0), .int (nI 0)])), (h_b, .inl (cI, 256, .inl (fun _ => 0))), (h_k, .inr (1, [.ref h_kb, .int (nI 0), .int (nI 0)])), (h_kb, .inl (cI, 12, .inl (fun _ => 0)))] := hD
        refine gPutF fx hnm hK hP hD hS 0 rfl inC tyC nmC rfl (k := 3) (by decide) w_58 rfl rfl rfl rfl (Nat.le_of_ble_eq_true rfl) d_C_init_64 (fun H locs hP hD hS => ?_)
        have hP : va_P D gCl [(h_c, .inr (2, [.ref h_w, .ref h_r, .ref h_t, .ref h_k, .null, .int (nI 0)])), (h_w, .inl (cI, 8, .inl vw)), (h_r, .inl (cI, 4, .inl (fun _ => 0))), (h_t, .inr (1, [.ref h_b, .int (nI 0), .int (nI 0)])), (h_b, .inl (cI, 256, .inl (fun _ => 0))), (h_k, .inr (1, [.ref h_kb, .int (nI 0), .int (nI 0)])), (h_kb, .inl (cI, 12, .inl (fun _ => 0)))] H := hP
        have hD : va_D A [(h_c, .inr (2, [.ref h_w, .ref h_r, .ref h_t, .ref h_k, .null, .int (nI 0)])), (h_w, .inl (cI, 8, .inl vw)), (h_r, .inl (cI, 4, .inl (fun _ => 0))), (h_t, .inr (1, [.ref h_b, .int (nI 0), .int (nI 0)])), (h_b, .inl (cI, 256, .inl (fun _ => 0))), (h_k, .inr (1, [.ref h_kb, .int (nI 0), .int (nI 0)])), (h_kb, .inl (cI, 12, .inl (fun _ => 0)))] := hD
        refine lv_aload_n hx hb d_C_init_67 rfl (lv_at hl 1 rfl) ?_
        refine gNew (ci := 0) (fs := [.int (nI 0), .int (nI 0), .int (nI 0), .int (nI 0)]) (N := 4) fx hK hA hP hD hS inY tyY rfl w_32 w_33 w_3 (fun j hj => by rcases (show j = 0 ∨ j = 1 ∨ j = 2 ∨ j = 3 by omega) with rfl | rfl | rfl | rfl <;> rfl) (by first | exact Nat.le_of_ble_eq_true rfl | (show _ ≤ Nb; omega)) (by first | exact Nat.le_of_ble_eq_true rfl | (show _ ≤ Nb; omega)) d_C_init_68 (fun h_y H hP hD hS => ?_)
        have hP : va_P D gCl [(h_c, .inr (2, [.ref h_w, .ref h_r, .ref h_t, .ref h_k, .null, .int (nI 0)])), (h_w, .inl (cI, 8, .inl vw)), (h_r, .inl (cI, 4, .inl (fun _ => 0))), (h_t, .inr (1, [.ref h_b, .int (nI 0), .int (nI 0)])), (h_b, .inl (cI, 256, .inl (fun _ => 0))), (h_k, .inr (1, [.ref h_kb, .int (nI 0), .int (nI 0)])), (h_kb, .inl (cI, 12, .inl (fun _ => 0))), (h_y, .inr (0, [.int (nI 0), .int (nI 0), .int (nI 0), .int (nI 0)]))] H := hP
        have hD : va_D A [(h_c, .inr (2, [.ref h_w, .ref h_r, .ref h_t, .ref h_k, .null, .int (nI 0)])), (h_w, .inl (cI, 8, .inl vw)), (h_r, .inl (cI, 4, .inl (fun _ => 0))), (h_t, .inr (1, [.ref h_b, .int (nI 0), .int (nI 0)])), (h_b, .inl (cI, 256, .inl (fun _ => 0))), (h_k, .inr (1, [.ref h_kb, .int (nI 0), .int (nI 0)])), (h_kb, .inl (cI, 12, .inl (fun _ => 0))), (h_y, .inr (0, [.int (nI 0), .int (nI 0), .int (nI 0), .int (nI 0)]))] := hD
        refine lv_dup hx hb d_C_init_71 rfl ?_
        refine g_cIN (wr := [(h_c, .inr (2, [.ref h_w, .ref h_r, .ref h_t, .ref h_k, .null, .int (nI 0)])), (h_w, .inl (cI, 8, .inl vw)), (h_r, .inl (cI, 4, .inl (fun _ => 0))), (h_t, .inr (1, [.ref h_b, .int (nI 0), .int (nI 0)])), (h_b, .inl (cI, 256, .inl (fun _ => 0))), (h_k, .inr (1, [.ref h_kb, .int (nI 0), .int (nI 0)])), (h_kb, .inl (cI, 12, .inl (fun _ => 0)))]) fx (c_Y_init l D cI h_y) mf_Y_init gN_0 ⟨rfl, rfl⟩ ⟨Nat.le_of_ble_eq_true rfl, Nat.le_of_ble_eq_true rfl⟩ hN hK hA hP hD hS [7] [0, 1, 2, 3, 4, 5, 6] rfl rfl rfl rfl (by decide) rfl rfl hl.1 (Nat.le_of_ble_eq_true rfl) d_C_init_72 ⟨(by first | exact Nat.le_of_ble_eq_true rfl | (show _ ≤ Nb; omega)), (by first | exact Nat.le_of_ble_eq_true rfl | (show _ ≤ Nb; omega))⟩ (fun u H locs _ hP hD hS => ?_)
        have hP : va_P D gCl [(h_c, .inr (2, [.ref h_w, .ref h_r, .ref h_t, .ref h_k, .null, .int (nI 0)])), (h_w, .inl (cI, 8, .inl vw)), (h_r, .inl (cI, 4, .inl (fun _ => 0))), (h_t, .inr (1, [.ref h_b, .int (nI 0), .int (nI 0)])), (h_b, .inl (cI, 256, .inl (fun _ => 0))), (h_k, .inr (1, [.ref h_kb, .int (nI 0), .int (nI 0)])), (h_kb, .inl (cI, 12, .inl (fun _ => 0))), (h_y, .inr (0, [.int (nI 0), .int (nI 0), .int (nI 0), .int (nI 0)]))] H := hP
        have hD : va_D A [(h_c, .inr (2, [.ref h_w, .ref h_r, .ref h_t, .ref h_k, .null, .int (nI 0)])), (h_w, .inl (cI, 8, .inl vw)), (h_r, .inl (cI, 4, .inl (fun _ => 0))), (h_t, .inr (1, [.ref h_b, .int (nI 0), .int (nI 0)])), (h_b, .inl (cI, 256, .inl (fun _ => 0))), (h_k, .inr (1, [.ref h_kb, .int (nI 0), .int (nI 0)])), (h_kb, .inl (cI, 12, .inl (fun _ => 0))), (h_y, .inr (0, [.int (nI 0), .int (nI 0), .int (nI 0), .int (nI 0)]))] := hD
        refine gPutF fx hnm hK hP hD hS 0 rfl inC tyC nmC rfl (k := 4) (by decide) w_59 rfl rfl rfl rfl (Nat.le_of_ble_eq_true rfl) d_C_init_75 (fun H locs hP hD hS => ?_)
        have hP : va_P D gCl [(h_c, .inr (2, [.ref h_w, .ref h_r, .ref h_t, .ref h_k, .ref h_y, .int (nI 0)])), (h_w, .inl (cI, 8, .inl vw)), (h_r, .inl (cI, 4, .inl (fun _ => 0))), (h_t, .inr (1, [.ref h_b, .int (nI 0), .int (nI 0)])), (h_b, .inl (cI, 256, .inl (fun _ => 0))), (h_k, .inr (1, [.ref h_kb, .int (nI 0), .int (nI 0)])), (h_kb, .inl (cI, 12, .inl (fun _ => 0))), (h_y, .inr (0, [.int (nI 0), .int (nI 0), .int (nI 0), .int (nI 0)]))] H := hP
        have hD : va_D A [(h_c, .inr (2, [.ref h_w, .ref h_r, .ref h_t, .ref h_k, .ref h_y, .int (nI 0)])), (h_w, .inl (cI, 8, .inl vw)), (h_r, .inl (cI, 4, .inl (fun _ => 0))), (h_t, .inr (1, [.ref h_b, .int (nI 0), .int (nI 0)])), (h_b, .inl (cI, 256, .inl (fun _ => 0))), (h_k, .inr (1, [.ref h_kb, .int (nI 0), .int (nI 0)])), (h_kb, .inl (cI, 12, .inl (fun _ => 0))), (h_y, .inr (0, [.int (nI 0), .int (nI 0), .int (nI 0), .int (nI 0)]))] := hD
        refine lv_aload_n hx hb d_C_init_78 rfl (lv_at hl 1 rfl) ?_
        refine lv_iconst (v := (nI 0)) hx hb d_C_init_79 (by decide) ?_
        refine gPut fx hK hP hD hS 0 rfl inC tyC nmC rfl (k := 5) (by decide) w_60 rfl rfl rfl (Nat.le_of_ble_eq_true rfl) d_C_init_80 (fun H locs hP hD hS => ?_)
        have hP : va_P D gCl [(h_c, .inr (2, [.ref h_w, .ref h_r, .ref h_t, .ref h_k, .ref h_y, .int (nI 0)])), (h_w, .inl (cI, 8, .inl vw)), (h_r, .inl (cI, 4, .inl (fun _ => 0))), (h_t, .inr (1, [.ref h_b, .int (nI 0), .int (nI 0)])), (h_b, .inl (cI, 256, .inl (fun _ => 0))), (h_k, .inr (1, [.ref h_kb, .int (nI 0), .int (nI 0)])), (h_kb, .inl (cI, 12, .inl (fun _ => 0))), (h_y, .inr (0, [.int (nI 0), .int (nI 0), .int (nI 0), .int (nI 0)]))] H := hP
        have hD : va_D A [(h_c, .inr (2, [.ref h_w, .ref h_r, .ref h_t, .ref h_k, .ref h_y, .int (nI 0)])), (h_w, .inl (cI, 8, .inl vw)), (h_r, .inl (cI, 4, .inl (fun _ => 0))), (h_t, .inr (1, [.ref h_b, .int (nI 0), .int (nI 0)])), (h_b, .inl (cI, 256, .inl (fun _ => 0))), (h_k, .inr (1, [.ref h_kb, .int (nI 0), .int (nI 0)])), (h_kb, .inl (cI, 12, .inl (fun _ => 0))), (h_y, .inr (0, [.int (nI 0), .int (nI 0), .int (nI 0), .int (nI 0)]))] := hD
        refine W.widen (k := 7) (n := 290) (by first | exact Nat.le_of_ble_eq_true rfl | (show _ ≤ Nb; omega)) (by first | exact Nat.le_of_ble_eq_true rfl | (show _ ≤ Nb; omega)) ?_
        exact hret _ _ (h_w, h_r, h_t, h_b, h_k, h_kb, h_y, vw) _ _ hw hP hD hS d_C_init_83
      · have hw := hw.2 c17
        refine lv_aload_n hx hb d_C_init_20 rfl (lv_at hl 1 rfl) ?_
        refine gGet fx hK hP 0 rfl inC rfl (k := 0) (by decide) w_55 rfl d_C_init_21 ?_
        refine lv_iload_n hx hb d_C_init_24 rfl (lv_at hl 0 rfl) ?_
        refine lv_iconst (v := (nI 1)) hx hb d_C_init_25 (by decide) ?_
        refine va_iast hx hb hK hP hD hS 1 0 rfl rfl hw.1 d_C_init_26 (fun H locs hP hD hS => ?_)
        have hw := hw.2
        have hP : va_P D gCl [(h_c, .inr (2, [.ref h_w, .null, .null, .null, .null, .int (nI 0)])), (h_w, .inl (cI, 8, .inl (upd vw (x1).toNatClampNeg (nI 1))))] H := hP
        have hD : va_D A [(h_c, .inr (2, [.ref h_w, .null, .null, .null, .null, .int (nI 0)])), (h_w, .inl (cI, 8, .inl (upd vw (x1).toNatClampNeg (nI 1))))] := hD
        refine lv_iinc (v := (x1 + (nI 1))) (lv' := [(1, .int (x1 + (nI 1))), (0, .ref h_c)]) hx hb d_C_init_27 hl (k := 0) rfl rfl (by decide) rfl (fun ls hl => ?_)
        refine lv_goto (tgt := 14) hx hb d_C_init_30 (by decide) ?_
        exact ih_14 _ _ hw _ _ _ hP hD hS (lv_sub hl [0, 1] rfl)
  exact k_14 n_14 _ _ hw _ _ _ hP hD hS (lv_sub hl [0, 1] rfl)
def wpF_M_init_39 (post : (Nat → Int32) → Prop) (K_39 : (Nat → Int32) → Int32 → Prop) (vw : Nat → Int32) (x1 : Int32) : Prop :=
  (((nI 8) ≤ x1 → post vw) ∧ (¬ (nI 8) ≤ x1 → (vp_in x1 8 ∧ K_39 (upd vw (x1).toNatClampNeg (nI 1)) (x1 + (nI 1)))))
def wp_M_init (post : (Nat → Int32) → Prop) : Prop :=
  (∃ n, gL2 (wpF_M_init_39 post) n (fun _ => 0) (nI 0))
abbrev rm_M_init : Room := { frames := 1, cells := 4, slots := 524, locals := 20 }
theorem mf_M_init : gFI y_M_init b_M_init 2 0 := ⟨w_225, w_4, ⟨by decide, by decide, by decide +kernel⟩, w_224, rfl⟩
set_option maxHeartbeats 4000000 in
set_option maxRecDepth 100000 in
theorem c_M_init (l : Launch) (D : va_G) (cI : ClassId) (h_o : Nat) (post : (Nat → Int32) → Prop) (hw : wp_M_init post) :
    gMc l D [(cI, .int)] y_M_init b_M_init 2 rm_M_init [.ref h_o] [(h_o, .inr (3, [.null, .null, .int (nI 0), .int (nI 0), .null, .int (nI 0), .int (nI 0), .int (nI 0), .null, .int (nI 0), .int (nI 0), .int (nI 0)]))] (S := Nat × Nat × Nat × Nat × (Nat → Int32)) (fun u => [(h_o, .inr (3, [.ref u.1, .ref u.2.1, .int (nI 0), .int (nI 0), .ref u.2.2.1, .int (nI 0), .int (nI 0), .int (nI 0), .ref u.2.2.2.1, .int (nI 0), .int (nI 0), .int (nI 0)])), (u.1, .inl (cI, 8, .inl u.2.2.2.2)), (u.2.1, .inl (cI, 256, .inl (fun _ => 0))), (u.2.2.1, .inl (cI, 256, .inl (fun _ => 0))), (u.2.2.2.1, .inl (cI, 4, .inl (fun _ => 0)))]) (fun u => post u.2.2.2.2) 4 524 := by
  rw [wp_M_init] at hw
  refine gMc.of (by decide) (Nat.le_of_ble_eq_true rfl) (fun p e s m args below meth c A Q ls hx hb hml hown hts hN hK hA hP hD hnm hret hl => ?_)
  have hnm : meth.name = "<init>" := hnm
  have fx : CallFix p m c b_M_init 2 s args gG "TapeCounterModel" := ⟨hx, hb, hml, hown, hts⟩
  have hl : lv_has ls 2 [(0, .ref h_o)] := hl
  have hS : va_S A s.heap s.heap [] := va_S.rf
  refine lv_aload_n hx hb d_M_init_0 rfl (lv_at hl 0 rfl) ?_
  refine gObj fx hl.1 w_226 w_13 w_14 (Nat.le_of_ble_eq_true rfl) (Nat.le_of_ble_eq_true rfl) d_M_init_1 ?_
  refine lv_aload_n hx hb d_M_init_4 rfl (lv_at hl 0 rfl) ?_
  refine lv_bipush (v := (nI 8)) hx hb d_M_init_5 (by decide) ?_
  refine gNewa (N' := 8) fx w_31 hK hA hP hD hS (by decide) (by decide) (by decide) (by first | exact Nat.le_of_ble_eq_true rfl | (show _ ≤ Nb; omega)) (by first | exact Nat.le_of_ble_eq_true rfl | (show _ ≤ Nb; omega)) d_M_init_7 (fun h_w H hP hD hS => ?_)
  have hP : va_P D gCl [(h_o, .inr (3, [.null, .null, .int (nI 0), .int (nI 0), .null, .int (nI 0), .int (nI 0), .int (nI 0), .null, .int (nI 0), .int (nI 0), .int (nI 0)])), (h_w, .inl (cI, 8, .inl (fun _ => 0)))] H := hP
  have hD : va_D A [(h_o, .inr (3, [.null, .null, .int (nI 0), .int (nI 0), .null, .int (nI 0), .int (nI 0), .int (nI 0), .null, .int (nI 0), .int (nI 0), .int (nI 0)])), (h_w, .inl (cI, 8, .inl (fun _ => 0)))] := hD
  refine gPutF fx hnm hK hP hD hS 0 rfl inM tyM nmM rfl (k := 0) (by decide) w_227 rfl rfl rfl rfl (Nat.le_of_ble_eq_true rfl) d_M_init_9 (fun H locs hP hD hS => ?_)
  have hP : va_P D gCl [(h_o, .inr (3, [.ref h_w, .null, .int (nI 0), .int (nI 0), .null, .int (nI 0), .int (nI 0), .int (nI 0), .null, .int (nI 0), .int (nI 0), .int (nI 0)])), (h_w, .inl (cI, 8, .inl (fun _ => 0)))] H := hP
  have hD : va_D A [(h_o, .inr (3, [.ref h_w, .null, .int (nI 0), .int (nI 0), .null, .int (nI 0), .int (nI 0), .int (nI 0), .null, .int (nI 0), .int (nI 0), .int (nI 0)])), (h_w, .inl (cI, 8, .inl (fun _ => 0)))] := hD
  refine lv_aload_n hx hb d_M_init_12 rfl (lv_at hl 0 rfl) ?_
  refine lv_sipush (v := (nI 256)) hx hb d_M_init_13 (by decide) ?_
  refine gNewa (N' := 256) fx w_31 hK hA hP hD hS (by decide) (by decide) (by decide) (by first | exact Nat.le_of_ble_eq_true rfl | (show _ ≤ Nb; omega)) (by first | exact Nat.le_of_ble_eq_true rfl | (show _ ≤ Nb; omega)) d_M_init_16 (fun h_q H hP hD hS => ?_)
  have hP : va_P D gCl [(h_o, .inr (3, [.ref h_w, .null, .int (nI 0), .int (nI 0), .null, .int (nI 0), .int (nI 0), .int (nI 0), .null, .int (nI 0), .int (nI 0), .int (nI 0)])), (h_w, .inl (cI, 8, .inl (fun _ => 0))), (h_q, .inl (cI, 256, .inl (fun _ => 0)))] H := hP
  have hD : va_D A [(h_o, .inr (3, [.ref h_w, .null, .int (nI 0), .int (nI 0), .null, .int (nI 0), .int (nI 0), .int (nI 0), .null, .int (nI 0), .int (nI 0), .int (nI 0)])), (h_w, .inl (cI, 8, .inl (fun _ => 0))), (h_q, .inl (cI, 256, .inl (fun _ => 0)))] := hD
  refine gPutF fx hnm hK hP hD hS 0 rfl inM tyM nmM rfl (k := 1) (by decide) w_228 rfl rfl rfl rfl (Nat.le_of_ble_eq_true rfl) d_M_init_18 (fun H locs hP hD hS => ?_)
  have hP : va_P D gCl [(h_o, .inr (3, [.ref h_w, .ref h_q, .int (nI 0), .int (nI 0), .null, .int (nI 0), .int (nI 0), .int (nI 0), .null, .int (nI 0), .int (nI 0), .int (nI 0)])), (h_w, .inl (cI, 8, .inl (fun _ => 0))), (h_q, .inl (cI, 256, .inl (fun _ => 0)))] H := hP
  have hD : va_D A [(h_o, .inr (3, [.ref h_w, .ref h_q, .int (nI 0), .int (nI 0), .null, .int (nI 0), .int (nI 0), .int (nI 0), .null, .int (nI 0), .int (nI 0), .int (nI 0)])), (h_w, .inl (cI, 8, .inl (fun _ => 0))), (h_q, .inl (cI, 256, .inl (fun _ => 0)))] := hD
  refine lv_aload_n hx hb d_M_init_21 rfl (lv_at hl 0 rfl) ?_
  refine lv_sipush (v := (nI 256)) hx hb d_M_init_22 (by decide) ?_
  refine gNewa (N' := 256) fx w_31 hK hA hP hD hS (by decide) (by decide) (by decide) (by first | exact Nat.le_of_ble_eq_true rfl | (show _ ≤ Nb; omega)) (by first | exact Nat.le_of_ble_eq_true rfl | (show _ ≤ Nb; omega)) d_M_init_25 (fun h_b H hP hD hS => ?_)
  have hP : va_P D gCl [(h_o, .inr (3, [.ref h_w, .ref h_q, .int (nI 0), .int (nI 0), .null, .int (nI 0), .int (nI 0), .int (nI 0), .null, .int (nI 0), .int (nI 0), .int (nI 0)])), (h_w, .inl (cI, 8, .inl (fun _ => 0))), (h_q, .inl (cI, 256, .inl (fun _ => 0))), (h_b, .inl (cI, 256, .inl (fun _ => 0)))] H := hP
  have hD : va_D A [(h_o, .inr (3, [.ref h_w, .ref h_q, .int (nI 0), .int (nI 0), .null, .int (nI 0), .int (nI 0), .int (nI 0), .null, .int (nI 0), .int (nI 0), .int (nI 0)])), (h_w, .inl (cI, 8, .inl (fun _ => 0))), (h_q, .inl (cI, 256, .inl (fun _ => 0))), (h_b, .inl (cI, 256, .inl (fun _ => 0)))] := hD
  refine gPutF fx hnm hK hP hD hS 0 rfl inM tyM nmM rfl (k := 4) (by decide) w_231 rfl rfl rfl rfl (Nat.le_of_ble_eq_true rfl) d_M_init_27 (fun H locs hP hD hS => ?_)
  have hP : va_P D gCl [(h_o, .inr (3, [.ref h_w, .ref h_q, .int (nI 0), .int (nI 0), .ref h_b, .int (nI 0), .int (nI 0), .int (nI 0), .null, .int (nI 0), .int (nI 0), .int (nI 0)])), (h_w, .inl (cI, 8, .inl (fun _ => 0))), (h_q, .inl (cI, 256, .inl (fun _ => 0))), (h_b, .inl (cI, 256, .inl (fun _ => 0)))] H := hP
  have hD : va_D A [(h_o, .inr (3, [.ref h_w, .ref h_q, .int (nI 0), .int (nI 0), .ref h_b, .int (nI 0), .int (nI 0), .int (nI 0), .null, .int (nI 0), .int (nI 0), .int (nI 0)])), (h_w, .inl (cI, 8, .inl (fun _ => 0))), (h_q, .inl (cI, 256, .inl (fun _ => 0))), (h_b, .inl (cI, 256, .inl (fun _ => 0)))] := hD
  refine lv_aload_n hx hb d_M_init_30 rfl (lv_at hl 0 rfl) ?_
  refine lv_iconst (v := (nI 4)) hx hb d_M_init_31 (by decide) ?_
  refine gNewa (N' := 4) fx w_31 hK hA hP hD hS (by decide) (by decide) (by decide) (by first | exact Nat.le_of_ble_eq_true rfl | (show _ ≤ Nb; omega)) (by first | exact Nat.le_of_ble_eq_true rfl | (show _ ≤ Nb; omega)) d_M_init_32 (fun h_r H hP hD hS => ?_)
  have hP : va_P D gCl [(h_o, .inr (3, [.ref h_w, .ref h_q, .int (nI 0), .int (nI 0), .ref h_b, .int (nI 0), .int (nI 0), .int (nI 0), .null, .int (nI 0), .int (nI 0), .int (nI 0)])), (h_w, .inl (cI, 8, .inl (fun _ => 0))), (h_q, .inl (cI, 256, .inl (fun _ => 0))), (h_b, .inl (cI, 256, .inl (fun _ => 0))), (h_r, .inl (cI, 4, .inl (fun _ => 0)))] H := hP
  have hD : va_D A [(h_o, .inr (3, [.ref h_w, .ref h_q, .int (nI 0), .int (nI 0), .ref h_b, .int (nI 0), .int (nI 0), .int (nI 0), .null, .int (nI 0), .int (nI 0), .int (nI 0)])), (h_w, .inl (cI, 8, .inl (fun _ => 0))), (h_q, .inl (cI, 256, .inl (fun _ => 0))), (h_b, .inl (cI, 256, .inl (fun _ => 0))), (h_r, .inl (cI, 4, .inl (fun _ => 0)))] := hD
  refine gPutF fx hnm hK hP hD hS 0 rfl inM tyM nmM rfl (k := 8) (by decide) w_235 rfl rfl rfl rfl (Nat.le_of_ble_eq_true rfl) d_M_init_34 (fun H locs hP hD hS => ?_)
  have hP : va_P D gCl [(h_o, .inr (3, [.ref h_w, .ref h_q, .int (nI 0), .int (nI 0), .ref h_b, .int (nI 0), .int (nI 0), .int (nI 0), .ref h_r, .int (nI 0), .int (nI 0), .int (nI 0)])), (h_w, .inl (cI, 8, .inl (fun _ => 0))), (h_q, .inl (cI, 256, .inl (fun _ => 0))), (h_b, .inl (cI, 256, .inl (fun _ => 0))), (h_r, .inl (cI, 4, .inl (fun _ => 0)))] H := hP
  have hD : va_D A [(h_o, .inr (3, [.ref h_w, .ref h_q, .int (nI 0), .int (nI 0), .ref h_b, .int (nI 0), .int (nI 0), .int (nI 0), .ref h_r, .int (nI 0), .int (nI 0), .int (nI 0)])), (h_w, .inl (cI, 8, .inl (fun _ => 0))), (h_q, .inl (cI, 256, .inl (fun _ => 0))), (h_b, .inl (cI, 256, .inl (fun _ => 0))), (h_r, .inl (cI, 4, .inl (fun _ => 0)))] := hD
  refine lv_iconst (v := (nI 0)) hx hb d_M_init_37 (by decide) ?_
  refine lv_istore_n (lv' := [(1, .int (nI 0)), (0, .ref h_o)]) hx hb d_M_init_38 rfl hl (by decide) rfl (fun ls hl => ?_)
  obtain ⟨n_39, hw⟩ := hw
  have k_39 : ∀ (n_39 : Nat) (vw : Nat → Int32) (x1 : Int32), gL2 (wpF_M_init_39 post) n_39 vw x1 → ∀ (H : Heap) (locs : List Loc) (ls : Array Slot), va_P D gCl [(h_o, .inr (3, [.ref h_w, .ref h_q, .int (nI 0), .int (nI 0), .ref h_b, .int (nI 0), .int (nI 0), .int (nI 0), .ref h_r, .int (nI 0), .int (nI 0), .int (nI 0)])), (h_w, .inl (cI, 8, .inl vw)), (h_q, .inl (cI, 256, .inl (fun _ => 0))), (h_b, .inl (cI, 256, .inl (fun _ => 0))), (h_r, .inl (cI, 4, .inl (fun _ => 0)))] H → va_D A [(h_o, .inr (3, [.ref h_w, .ref h_q, .int (nI 0), .int (nI 0), .ref h_b, .int (nI 0), .int (nI 0), .int (nI 0), .ref h_r, .int (nI 0), .int (nI 0), .int (nI 0)])), (h_w, .inl (cI, 8, .inl vw)), (h_q, .inl (cI, 256, .inl (fun _ => 0))), (h_b, .inl (cI, 256, .inl (fun _ => 0))), (h_r, .inl (cI, 4, .inl (fun _ => 0)))] → va_S A s.heap H locs → lv_has ls 2 [(1, .int x1), (0, .ref h_o)] → W p l e rm_M_init s m args below meth c H locs ((((0 + 1) + 1) + 1) + 1) ((((0 + 8) + 256) + 256) + 4) Q (F0 m 39 ls []) := by
    clear hw hP hD hS hl
    intro n_39
    induction n_39 with
    | zero => exact fun _ _ h => h.elim
    | succ n_39 ih_39 =>
      intro vw x1 hw H locs ls hP hD hS hl
      have hw : wpF_M_init_39 post (gL2 (wpF_M_init_39 post) n_39) vw x1 := hw
      rw [wpF_M_init_39] at hw
      refine lv_iload_n hx hb d_M_init_39 rfl (lv_at hl 0 rfl) ?_
      refine lv_bipush (v := (nI 8)) hx hb d_M_init_40 (by decide) ?_
      refine lv_icmp_ge (tgt := 58) hx hb d_M_init_42 (by decide) (fun c42 => ?_) (fun c42 => ?_)
      · have hw := hw.1 c42
        refine W.widen (k := 4) (n := 524) (by first | exact Nat.le_of_ble_eq_true rfl | (show _ ≤ Nb; omega)) (by first | exact Nat.le_of_ble_eq_true rfl | (show _ ≤ Nb; omega)) ?_
        exact hret _ _ (h_w, h_q, h_b, h_r, vw) _ _ hw hP hD hS d_M_init_58
      · have hw := hw.2 c42
        refine lv_aload_n hx hb d_M_init_45 rfl (lv_at hl 1 rfl) ?_
        refine gGet fx hK hP 0 rfl inM rfl (k := 0) (by decide) w_227 rfl d_M_init_46 ?_
        refine lv_iload_n hx hb d_M_init_49 rfl (lv_at hl 0 rfl) ?_
        refine lv_iconst (v := (nI 1)) hx hb d_M_init_50 (by decide) ?_
        refine va_iast hx hb hK hP hD hS 1 0 rfl rfl hw.1 d_M_init_51 (fun H locs hP hD hS => ?_)
        have hw := hw.2
        have hP : va_P D gCl [(h_o, .inr (3, [.ref h_w, .ref h_q, .int (nI 0), .int (nI 0), .ref h_b, .int (nI 0), .int (nI 0), .int (nI 0), .ref h_r, .int (nI 0), .int (nI 0), .int (nI 0)])), (h_w, .inl (cI, 8, .inl (upd vw (x1).toNatClampNeg (nI 1)))), (h_q, .inl (cI, 256, .inl (fun _ => 0))), (h_b, .inl (cI, 256, .inl (fun _ => 0))), (h_r, .inl (cI, 4, .inl (fun _ => 0)))] H := hP
        have hD : va_D A [(h_o, .inr (3, [.ref h_w, .ref h_q, .int (nI 0), .int (nI 0), .ref h_b, .int (nI 0), .int (nI 0), .int (nI 0), .ref h_r, .int (nI 0), .int (nI 0), .int (nI 0)])), (h_w, .inl (cI, 8, .inl (upd vw (x1).toNatClampNeg (nI 1)))), (h_q, .inl (cI, 256, .inl (fun _ => 0))), (h_b, .inl (cI, 256, .inl (fun _ => 0))), (h_r, .inl (cI, 4, .inl (fun _ => 0)))] := hD
        refine lv_iinc (v := (x1 + (nI 1))) (lv' := [(1, .int (x1 + (nI 1))), (0, .ref h_o)]) hx hb d_M_init_52 hl (k := 0) rfl rfl (by decide) rfl (fun ls hl => ?_)
        refine lv_goto (tgt := 39) hx hb d_M_init_55 (by decide) ?_
        exact ih_39 _ _ hw _ _ _ hP hD hS (lv_sub hl [0, 1] rfl)
  exact k_39 n_39 _ _ hw _ _ _ hP hD hS (lv_sub hl [0, 1] rfl)
