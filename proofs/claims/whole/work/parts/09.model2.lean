def wpF_M_order_104 (K_88 : Int32 → Int32 → Prop) (vr : Nat → Int32) (x1 : Int32) (x2 : Int32) (x3 : Int32) (K_104 : Int32 → Int32 → Int32 → Prop) (x4 : Int32) (x5 : Int32) (x6 : Int32) : Prop :=
  ((x1 ≤ x6 → K_88 (x2 + (x4 * x5)) (x3 + (nI 1))) ∧ (¬ x1 ≤ x6 → (vp_in x6 4 ∧ (vp_in x3 4 ∧ (((vr (x3).toNatClampNeg) ≤ (vr (x6).toNatClampNeg) → K_104 (x4 + (nI 0)) (x5 * (x6 - x3)) (x6 + (nI 1))) ∧ (¬ (vr (x3).toNatClampNeg) ≤ (vr (x6).toNatClampNeg) → K_104 (x4 + (nI 1)) (x5 * (x6 - x3)) (x6 + (nI 1))))))))
def wpF_M_order_88 (post : Int32 → Int32 → Int32 → (Nat → Int32) → Prop) (o_at : Int32) (o_isOut : Int32) (vr : Nat → Int32) (x1 : Int32) (K_88 : Int32 → Int32 → Prop) (x2 : Int32) (x3 : Int32) : Prop :=
  ((x1 ≤ x3 → post x2 o_at o_isOut vr) ∧ (¬ x1 ≤ x3 → (∃ n, gL3 (wpF_M_order_104 K_88 vr x1 x2 x3) n (nI 0) (nI 1) (x3 + (nI 1)))))
def wpF_M_order_24 (post : Int32 → Int32 → Int32 → (Nat → Int32) → Prop) (o_length : Int32) (o_spent : Int32) (o_many : Int32) (o_values : Int32) (o_failures : Int32) (o_works : Int32) (vb : Nat → Int32) (x1 : Int32) (K_24 : Int32 → Int32 → (Nat → Int32) → Int32 → Prop) (o_at : Int32) (o_isOut : Int32) (vr : Nat → Int32) (x2 : Int32) : Prop :=
  ((x2 ≤ 0 → (∃ n, gL2 (wpF_M_order_88 post o_at o_isOut vr x1) n (nI 0) (nI 0))) ∧ (¬ x2 ≤ 0 → ((¬ o_isOut = 0 → (∃ n, gL2 (wpF_M_order_88 post o_at o_isOut vr x1) n (nI 0) (nI 0))) ∧ (o_isOut = 0 → wp_M_plain (fun r_1 oat_2 oisOut_3 => ((¬ oisOut_3 = 0 → K_24 oat_2 oisOut_3 vr (x2 + (-1))) ∧ (oisOut_3 = 0 → (vp_in x2 4 ∧ (vp_in r_1 4 ∧ (vp_in x2 4 ∧ (vp_in r_1 4 ∧ K_24 oat_2 oisOut_3 (upd (upd vr (x2).toNatClampNeg (vr (r_1).toNatClampNeg)) (r_1).toNatClampNeg (vr (x2).toNatClampNeg)) (x2 + (-1))))))))) o_length o_spent o_many o_at o_isOut o_values o_failures o_works vb (x2 + (nI 1))))))
def wpF_M_order_2 (post : Int32 → Int32 → Int32 → (Nat → Int32) → Prop) (o_length : Int32) (o_spent : Int32) (o_many : Int32) (o_at : Int32) (o_isOut : Int32) (o_values : Int32) (o_failures : Int32) (o_works : Int32) (vb : Nat → Int32) (x1 : Int32) (K_2 : (Nat → Int32) → Int32 → Prop) (vr : Nat → Int32) (x2 : Int32) : Prop :=
  ((x1 ≤ x2 → (∃ n, gL4 (wpF_M_order_24 post o_length o_spent o_many o_values o_failures o_works vb x1) n o_at o_isOut vr (x1 - (nI 1)))) ∧ (¬ x1 ≤ x2 → (vp_in x2 4 ∧ K_2 (upd vr (x2).toNatClampNeg x2) (x2 + (nI 1)))))
def wp_M_order (post : Int32 → Int32 → Int32 → (Nat → Int32) → Prop) (o_length : Int32) (o_spent : Int32) (o_many : Int32) (o_at : Int32) (o_isOut : Int32) (o_values : Int32) (o_failures : Int32) (o_works : Int32) (vb : Nat → Int32) (vr : Nat → Int32) (x1 : Int32) : Prop :=
  (∃ n, gL2 (wpF_M_order_2 post o_length o_spent o_many o_at o_isOut o_values o_failures o_works vb x1) n vr (nI 0))
abbrev rm_M_order : Room := { frames := 2, cells := 0, slots := 0, locals := 43 }
theorem mf_M_order : gFV y_M_order b_M_order 7 (some .int) 1 := ⟨w_316, w_4, ⟨by decide, by decide, by decide +kernel⟩, w_315, ws_1_13⟩
set_option maxHeartbeats 4000000 in
set_option maxRecDepth 100000 in
theorem c_M_order (l : Launch) (D : va_G) (cI : ClassId) (h_o : Nat) (h_b : Nat) (h_r : Nat) (o_weights : Nat) (o_tape : Nat) (o_length : Int32) (o_spent : Int32) (o_many : Int32) (o_at : Int32) (o_isOut : Int32) (o_values : Int32) (o_failures : Int32) (o_works : Int32) (vb : Nat → Int32) (vr : Nat → Int32) (x1 : Int32) (post : Int32 → Int32 → Int32 → (Nat → Int32) → Prop) (hw : wp_M_order post o_length o_spent o_many o_at o_isOut o_values o_failures o_works vb vr x1) :
    gMi l D [(cI, .int)] y_M_order b_M_order 7 .int rm_M_order [.ref h_o, .int x1] [(h_o, .inr (3, [.ref o_weights, .ref o_tape, .int o_length, .int o_spent, .ref h_b, .int o_many, .int o_at, .int o_isOut, .ref h_r, .int o_values, .int o_failures, .int o_works])), (h_b, .inl (cI, 256, .inl vb)), (h_r, .inl (cI, 4, .inl vr))] (S := Int32 × Int32 × (Nat → Int32)) (fun u => [(h_o, .inr (3, [.ref o_weights, .ref o_tape, .int o_length, .int o_spent, .ref h_b, .int o_many, .int u.1, .int u.2.1, .ref h_r, .int o_values, .int o_failures, .int o_works])), (h_b, .inl (cI, 256, .inl vb)), (h_r, .inl (cI, 4, .inl u.2.2))]) (fun r u => post r u.1 u.2.1 u.2.2) := by
  rw [wp_M_order] at hw
  refine gMi.of (by decide) (Nat.le_of_ble_eq_true rfl) (fun p e s m args below meth c A Q ls hx hb hml hown hts hN hK hA hP hD hret hl => ?_)
  have fx : CallFix p m c b_M_order 7 s args gG "TapeCounterModel" := ⟨hx, hb, hml, hown, hts⟩
  have hl : lv_has ls 7 [(0, .ref h_o), (1, .int x1)] := hl
  have hS : va_S A s.heap s.heap [] := va_S.rf
  refine lv_iconst (v := (nI 0)) hx hb d_M_order_0 (by decide) ?_
  refine lv_istore_n (lv' := [(2, .int (nI 0)), (0, .ref h_o), (1, .int x1)]) hx hb d_M_order_1 rfl hl (by decide) rfl (fun ls hl => ?_)
  obtain ⟨n_2, hw⟩ := hw
  have k_2 : ∀ (n_2 : Nat) (vr : Nat → Int32) (x2 : Int32), gL2 (wpF_M_order_2 post o_length o_spent o_many o_at o_isOut o_values o_failures o_works vb x1) n_2 vr x2 → ∀ (H : Heap) (locs : List Loc) (ls : Array Slot), va_P D gCl [(h_o, .inr (3, [.ref o_weights, .ref o_tape, .int o_length, .int o_spent, .ref h_b, .int o_many, .int o_at, .int o_isOut, .ref h_r, .int o_values, .int o_failures, .int o_works])), (h_b, .inl (cI, 256, .inl vb)), (h_r, .inl (cI, 4, .inl vr))] H → va_D A [(h_o, .inr (3, [.ref o_weights, .ref o_tape, .int o_length, .int o_spent, .ref h_b, .int o_many, .int o_at, .int o_isOut, .ref h_r, .int o_values, .int o_failures, .int o_works])), (h_b, .inl (cI, 256, .inl vb)), (h_r, .inl (cI, 4, .inl vr))] → va_S A s.heap H locs → lv_has ls 7 [(2, .int x2), (0, .ref h_o), (1, .int x1)] → W p l e rm_M_order s m args below meth c H locs 0 0 Q (F0 m 2 ls []) := by
    clear hw hP hD hS hl
    intro n_2
    induction n_2 with
    | zero => exact fun _ _ h => h.elim
    | succ n_2 ih_2 =>
      intro vr x2 hw H locs ls hP hD hS hl
      have hw : wpF_M_order_2 post o_length o_spent o_many o_at o_isOut o_values o_failures o_works vb x1 (gL2 (wpF_M_order_2 post o_length o_spent o_many o_at o_isOut o_values o_failures o_works vb x1) n_2) vr x2 := hw
      rw [wpF_M_order_2] at hw
      refine lv_iload_n hx hb d_M_order_2 rfl (lv_at hl 0 rfl) ?_
      refine lv_iload_n hx hb d_M_order_3 rfl (lv_at hl 2 rfl) ?_
      refine lv_icmp_ge (tgt := 20) hx hb d_M_order_4 (by decide) (fun c4 => ?_) (fun c4 => ?_)
      · have hw := hw.1 c4
        refine lv_iload_n hx hb d_M_order_20 rfl (lv_at hl 2 rfl) ?_
        refine lv_iconst (v := (nI 1)) hx hb d_M_order_21 (by decide) ?_
        refine lv_isub hx hb d_M_order_22 ?_
        refine lv_istore_n (lv' := [(2, .int (x1 - (nI 1))), (0, .ref h_o), (1, .int x1)]) hx hb d_M_order_23 rfl hl (by decide) rfl (fun ls hl => ?_)
        obtain ⟨n_24, hw⟩ := hw
        have k_24 : ∀ (n_24 : Nat) (o_at : Int32) (o_isOut : Int32) (vr : Nat → Int32) (x2 : Int32), gL4 (wpF_M_order_24 post o_length o_spent o_many o_values o_failures o_works vb x1) n_24 o_at o_isOut vr x2 → ∀ (H : Heap) (locs : List Loc) (ls : Array Slot), va_P D gCl [(h_o, .inr (3, [.ref o_weights, .ref o_tape, .int o_length, .int o_spent, .ref h_b, .int o_many, .int o_at, .int o_isOut, .ref h_r, .int o_values, .int o_failures, .int o_works])), (h_b, .inl (cI, 256, .inl vb)), (h_r, .inl (cI, 4, .inl vr))] H → va_D A [(h_o, .inr (3, [.ref o_weights, .ref o_tape, .int o_length, .int o_spent, .ref h_b, .int o_many, .int o_at, .int o_isOut, .ref h_r, .int o_values, .int o_failures, .int o_works])), (h_b, .inl (cI, 256, .inl vb)), (h_r, .inl (cI, 4, .inl vr))] → va_S A s.heap H locs → lv_has ls 7 [(2, .int x2), (0, .ref h_o), (1, .int x1)] → W p l e rm_M_order s m args below meth c H locs 0 0 Q (F0 m 24 ls []) := by
          clear hw hP hD hS hl
          intro n_24
          induction n_24 with
          | zero => exact fun _ _ _ _ h => h.elim
          | succ n_24 ih_24 =>
            intro o_at o_isOut vr x2 hw H locs ls hP hD hS hl
            have hw : wpF_M_order_24 post o_length o_spent o_many o_values o_failures o_works vb x1 (gL4 (wpF_M_order_24 post o_length o_spent o_many o_values o_failures o_works vb x1) n_24) o_at o_isOut vr x2 := hw
            rw [wpF_M_order_24] at hw
            refine lv_iload_n hx hb d_M_order_24 rfl (lv_at hl 0 rfl) ?_
            refine lv_if_le (tgt := 84) hx hb d_M_order_25 (by decide) (fun c25 => ?_) (fun c25 => ?_)
            · have hw := hw.1 c25
              refine lv_iconst (v := (nI 0)) hx hb d_M_order_84 (by decide) ?_
              refine lv_istore_n (lv' := [(2, .int (nI 0)), (0, .ref h_o), (1, .int x1)]) hx hb d_M_order_85 rfl hl (by decide) rfl (fun ls hl => ?_)
              refine lv_iconst (v := (nI 0)) hx hb d_M_order_86 (by decide) ?_
              refine lv_istore_n (lv' := [(3, .int (nI 0)), (2, .int (nI 0)), (0, .ref h_o), (1, .int x1)]) hx hb d_M_order_87 rfl hl (by decide) rfl (fun ls hl => ?_)
              obtain ⟨n_88, hw⟩ := hw
              have k_88 : ∀ (n_88 : Nat) (x2 : Int32) (x3 : Int32), gL2 (wpF_M_order_88 post o_at o_isOut vr x1) n_88 x2 x3 → ∀ (H : Heap) (locs : List Loc) (ls : Array Slot), va_P D gCl [(h_o, .inr (3, [.ref o_weights, .ref o_tape, .int o_length, .int o_spent, .ref h_b, .int o_many, .int o_at, .int o_isOut, .ref h_r, .int o_values, .int o_failures, .int o_works])), (h_b, .inl (cI, 256, .inl vb)), (h_r, .inl (cI, 4, .inl vr))] H → va_D A [(h_o, .inr (3, [.ref o_weights, .ref o_tape, .int o_length, .int o_spent, .ref h_b, .int o_many, .int o_at, .int o_isOut, .ref h_r, .int o_values, .int o_failures, .int o_works])), (h_b, .inl (cI, 256, .inl vb)), (h_r, .inl (cI, 4, .inl vr))] → va_S A s.heap H locs → lv_has ls 7 [(3, .int x3), (2, .int x2), (0, .ref h_o), (1, .int x1)] → W p l e rm_M_order s m args below meth c H locs 0 0 Q (F0 m 88 ls []) := by
                clear hw hP hD hS hl
                intro n_88
                induction n_88 with
                | zero => exact fun _ _ h => h.elim
                | succ n_88 ih_88 =>
                  intro x2 x3 hw H locs ls hP hD hS hl
                  have hw : wpF_M_order_88 post o_at o_isOut vr x1 (gL2 (wpF_M_order_88 post o_at o_isOut vr x1) n_88) x2 x3 := hw
                  rw [wpF_M_order_88] at hw
                  refine lv_iload_n hx hb d_M_order_88 rfl (lv_at hl 0 rfl) ?_
                  refine lv_iload_n hx hb d_M_order_89 rfl (lv_at hl 3 rfl) ?_
                  refine lv_icmp_ge (tgt := 165) hx hb d_M_order_90 (by decide) (fun c90 => ?_) (fun c90 => ?_)
                  · have hw := hw.1 c90
                    refine lv_iload_n hx hb d_M_order_165 rfl (lv_at hl 1 rfl) ?_
                    exact hret _ _ _ (o_at, o_isOut, vr) _ _ hw rfl hP hD hS d_M_order_166
                  · have hw := hw.2 c90
                    refine lv_iconst (v := (nI 0)) hx hb d_M_order_93 (by decide) ?_
                    refine lv_istore (lv' := [(4, .int (nI 0)), (3, .int x3), (2, .int x2), (0, .ref h_o), (1, .int x1)]) hx hb d_M_order_94 hl (by decide) rfl (fun ls hl => ?_)
                    refine lv_iconst (v := (nI 1)) hx hb d_M_order_96 (by decide) ?_
                    refine lv_istore (lv' := [(5, .int (nI 1)), (4, .int (nI 0)), (3, .int x3), (2, .int x2), (0, .ref h_o), (1, .int x1)]) hx hb d_M_order_97 hl (by decide) rfl (fun ls hl => ?_)
                    refine lv_iload_n hx hb d_M_order_99 rfl (lv_at hl 2 rfl) ?_
                    refine lv_iconst (v := (nI 1)) hx hb d_M_order_100 (by decide) ?_
                    refine lv_iadd hx hb d_M_order_101 ?_
                    refine lv_istore (lv' := [(6, .int (x3 + (nI 1))), (5, .int (nI 1)), (4, .int (nI 0)), (3, .int x3), (2, .int x2), (0, .ref h_o), (1, .int x1)]) hx hb d_M_order_102 hl (by decide) rfl (fun ls hl => ?_)
                    obtain ⟨n_104, hw⟩ := hw
                    have k_104 : ∀ (n_104 : Nat) (x4 : Int32) (x5 : Int32) (x6 : Int32), gL3 (wpF_M_order_104 (gL2 (wpF_M_order_88 post o_at o_isOut vr x1) n_88) vr x1 x2 x3) n_104 x4 x5 x6 → ∀ (H : Heap) (locs : List Loc) (ls : Array Slot), va_P D gCl [(h_o, .inr (3, [.ref o_weights, .ref o_tape, .int o_length, .int o_spent, .ref h_b, .int o_many, .int o_at, .int o_isOut, .ref h_r, .int o_values, .int o_failures, .int o_works])), (h_b, .inl (cI, 256, .inl vb)), (h_r, .inl (cI, 4, .inl vr))] H → va_D A [(h_o, .inr (3, [.ref o_weights, .ref o_tape, .int o_length, .int o_spent, .ref h_b, .int o_many, .int o_at, .int o_isOut, .ref h_r, .int o_values, .int o_failures, .int o_works])), (h_b, .inl (cI, 256, .inl vb)), (h_r, .inl (cI, 4, .inl vr))] → va_S A s.heap H locs → lv_has ls 7 [(6, .int x6), (5, .int x5), (4, .int x4), (3, .int x3), (2, .int x2), (0, .ref h_o), (1, .int x1)] → W p l e rm_M_order s m args below meth c H locs 0 0 Q (F0 m 104 ls []) := by
                      clear hw hP hD hS hl
                      intro n_104
                      induction n_104 with
                      | zero => exact fun _ _ _ h => h.elim
                      | succ n_104 ih_104 =>
                        intro x4 x5 x6 hw H locs ls hP hD hS hl
                        have hw : wpF_M_order_104 (gL2 (wpF_M_order_88 post o_at o_isOut vr x1) n_88) vr x1 x2 x3 (gL3 (wpF_M_order_104 (gL2 (wpF_M_order_88 post o_at o_isOut vr x1) n_88) vr x1 x2 x3) n_104) x4 x5 x6 := hw
                        rw [wpF_M_order_104] at hw
                        refine lv_iload hx hb d_M_order_104 (lv_at hl 0 rfl) ?_
                        refine lv_iload_n hx hb d_M_order_106 rfl (lv_at hl 6 rfl) ?_
                        refine lv_icmp_ge (tgt := 151) hx hb d_M_order_107 (by decide) (fun c107 => ?_) (fun c107 => ?_)
                        · have hw := hw.1 c107
                          refine lv_iload_n hx hb d_M_order_151 rfl (lv_at hl 4 rfl) ?_
                          refine lv_iload hx hb d_M_order_152 (lv_at hl 2 rfl) ?_
                          refine lv_iload hx hb d_M_order_154 (lv_at hl 1 rfl) ?_
                          refine lv_imul hx hb d_M_order_156 ?_
                          refine lv_iadd hx hb d_M_order_157 ?_
                          refine lv_istore_n (lv' := [(2, .int (x2 + (x4 * x5))), (6, .int x6), (5, .int x5), (4, .int x4), (3, .int x3), (0, .ref h_o), (1, .int x1)]) hx hb d_M_order_158 rfl hl (by decide) rfl (fun ls hl => ?_)
                          refine lv_iinc (v := (x3 + (nI 1))) (lv' := [(3, .int (x3 + (nI 1))), (2, .int (x2 + (x4 * x5))), (6, .int x6), (5, .int x5), (4, .int x4), (0, .ref h_o), (1, .int x1)]) hx hb d_M_order_159 hl (k := 4) rfl rfl (by decide) rfl (fun ls hl => ?_)
                          refine lv_goto (tgt := 88) hx hb d_M_order_162 (by decide) ?_
                          exact ih_88 _ _ hw _ _ _ hP hD hS (lv_sub hl [0, 1, 5, 6] rfl)
                        · have hw := hw.2 c107
                          refine lv_iload hx hb d_M_order_110 (lv_at hl 2 rfl) ?_
                          refine lv_aload_n hx hb d_M_order_112 rfl (lv_at hl 5 rfl) ?_
                          refine gGet fx hK hP 0 rfl inM rfl (k := 8) (by decide) w_235 rfl d_M_order_113 ?_
                          refine lv_iload hx hb d_M_order_116 (lv_at hl 0 rfl) ?_
                          refine va_iald hx hb hK hP 2 0 rfl rfl hw.1 d_M_order_118 ?_
                          have hw := hw.2
                          refine lv_aload_n hx hb d_M_order_119 rfl (lv_at hl 5 rfl) ?_
                          refine gGet fx hK hP 0 rfl inM rfl (k := 8) (by decide) w_235 rfl d_M_order_120 ?_
                          refine lv_iload_n hx hb d_M_order_123 rfl (lv_at hl 3 rfl) ?_
                          refine va_iald hx hb hK hP 2 0 rfl rfl hw.1 d_M_order_124 ?_
                          have hw := hw.2
                          refine lv_icmp_ge (tgt := 132) hx hb d_M_order_125 (by decide) (fun c125 => ?_) (fun c125 => ?_)
                          · have hw := hw.1 c125
                            refine lv_iconst (v := (nI 0)) hx hb d_M_order_132 (by decide) ?_
                            refine lv_iadd hx hb d_M_order_133 ?_
                            refine lv_istore (lv' := [(4, .int (x4 + (nI 0))), (6, .int x6), (5, .int x5), (3, .int x3), (2, .int x2), (0, .ref h_o), (1, .int x1)]) hx hb d_M_order_134 hl (by decide) rfl (fun ls hl => ?_)
                            refine lv_iload hx hb d_M_order_136 (lv_at hl 2 rfl) ?_
                            refine lv_iload hx hb d_M_order_138 (lv_at hl 1 rfl) ?_
                            refine lv_iload_n hx hb d_M_order_140 rfl (lv_at hl 3 rfl) ?_
                            refine lv_isub hx hb d_M_order_141 ?_
                            refine lv_imul hx hb d_M_order_142 ?_
                            refine lv_istore (lv' := [(5, .int (x5 * (x6 - x3))), (4, .int (x4 + (nI 0))), (6, .int x6), (3, .int x3), (2, .int x2), (0, .ref h_o), (1, .int x1)]) hx hb d_M_order_143 hl (by decide) rfl (fun ls hl => ?_)
                            refine lv_iinc (v := (x6 + (nI 1))) (lv' := [(6, .int (x6 + (nI 1))), (5, .int (x5 * (x6 - x3))), (4, .int (x4 + (nI 0))), (3, .int x3), (2, .int x2), (0, .ref h_o), (1, .int x1)]) hx hb d_M_order_145 hl (k := 2) rfl rfl (by decide) rfl (fun ls hl => ?_)
                            refine lv_goto (tgt := 104) hx hb d_M_order_148 (by decide) ?_
                            exact ih_104 _ _ _ hw _ _ _ hP hD hS (lv_sub hl [0, 1, 2, 3, 4, 5, 6] rfl)
                          · have hw := hw.2 c125
                            refine lv_iconst (v := (nI 1)) hx hb d_M_order_128 (by decide) ?_
                            refine lv_goto (tgt := 133) hx hb d_M_order_129 (by decide) ?_
                            refine lv_iadd hx hb d_M_order_133 ?_
                            refine lv_istore (lv' := [(4, .int (x4 + (nI 1))), (6, .int x6), (5, .int x5), (3, .int x3), (2, .int x2), (0, .ref h_o), (1, .int x1)]) hx hb d_M_order_134 hl (by decide) rfl (fun ls hl => ?_)
                            refine lv_iload hx hb d_M_order_136 (lv_at hl 2 rfl) ?_
                            refine lv_iload hx hb d_M_order_138 (lv_at hl 1 rfl) ?_
                            refine lv_iload_n hx hb d_M_order_140 rfl (lv_at hl 3 rfl) ?_
                            refine lv_isub hx hb d_M_order_141 ?_
                            refine lv_imul hx hb d_M_order_142 ?_
                            refine lv_istore (lv' := [(5, .int (x5 * (x6 - x3))), (4, .int (x4 + (nI 1))), (6, .int x6), (3, .int x3), (2, .int x2), (0, .ref h_o), (1, .int x1)]) hx hb d_M_order_143 hl (by decide) rfl (fun ls hl => ?_)
                            refine lv_iinc (v := (x6 + (nI 1))) (lv' := [(6, .int (x6 + (nI 1))), (5, .int (x5 * (x6 - x3))), (4, .int (x4 + (nI 1))), (3, .int x3), (2, .int x2), (0, .ref h_o), (1, .int x1)]) hx hb d_M_order_145 hl (k := 2) rfl rfl (by decide) rfl (fun ls hl => ?_)
                            refine lv_goto (tgt := 104) hx hb d_M_order_148 (by decide) ?_
                            exact ih_104 _ _ _ hw _ _ _ hP hD hS (lv_sub hl [0, 1, 2, 3, 4, 5, 6] rfl)
                    exact k_104 n_104 _ _ _ hw _ _ _ hP hD hS (lv_sub hl [0, 1, 2, 3, 4, 5, 6] rfl)
              exact k_88 n_88 _ _ hw _ _ _ hP hD hS (lv_sub hl [0, 1, 2, 3] rfl)
            · have hw := hw.2 c25
              refine lv_aload_n hx hb d_M_order_28 rfl (lv_at hl 1 rfl) ?_
              refine gGet fx hK hP 0 rfl inM rfl (k := 7) (by decide) w_234 rfl d_M_order_29 ?_
              refine lv_if_ne (tgt := 84) hx hb d_M_order_32 (by decide) (fun c32 => ?_) (fun c32 => ?_)
              · have hw := hw.1 c32
                refine lv_iconst (v := (nI 0)) hx hb d_M_order_84 (by decide) ?_
                refine lv_istore_n (lv' := [(2, .int (nI 0)), (0, .ref h_o), (1, .int x1)]) hx hb d_M_order_85 rfl hl (by decide) rfl (fun ls hl => ?_)
                refine lv_iconst (v := (nI 0)) hx hb d_M_order_86 (by decide) ?_
                refine lv_istore_n (lv' := [(3, .int (nI 0)), (2, .int (nI 0)), (0, .ref h_o), (1, .int x1)]) hx hb d_M_order_87 rfl hl (by decide) rfl (fun ls hl => ?_)
                obtain ⟨n_88, hw⟩ := hw
                have k_88 : ∀ (n_88 : Nat) (x2 : Int32) (x3 : Int32), gL2 (wpF_M_order_88 post o_at o_isOut vr x1) n_88 x2 x3 → ∀ (H : Heap) (locs : List Loc) (ls : Array Slot), va_P D gCl [(h_o, .inr (3, [.ref o_weights, .ref o_tape, .int o_length, .int o_spent, .ref h_b, .int o_many, .int o_at, .int o_isOut, .ref h_r, .int o_values, .int o_failures, .int o_works])), (h_b, .inl (cI, 256, .inl vb)), (h_r, .inl (cI, 4, .inl vr))] H → va_D A [(h_o, .inr (3, [.ref o_weights, .ref o_tape, .int o_length, .int o_spent, .ref h_b, .int o_many, .int o_at, .int o_isOut, .ref h_r, .int o_values, .int o_failures, .int o_works])), (h_b, .inl (cI, 256, .inl vb)), (h_r, .inl (cI, 4, .inl vr))] → va_S A s.heap H locs → lv_has ls 7 [(3, .int x3), (2, .int x2), (0, .ref h_o), (1, .int x1)] → W p l e rm_M_order s m args below meth c H locs 0 0 Q (F0 m 88 ls []) := by
                  clear hw hP hD hS hl
                  intro n_88
                  induction n_88 with
                  | zero => exact fun _ _ h => h.elim
                  | succ n_88 ih_88 =>
                    intro x2 x3 hw H locs ls hP hD hS hl
                    have hw : wpF_M_order_88 post o_at o_isOut vr x1 (gL2 (wpF_M_order_88 post o_at o_isOut vr x1) n_88) x2 x3 := hw
                    rw [wpF_M_order_88] at hw
                    refine lv_iload_n hx hb d_M_order_88 rfl (lv_at hl 0 rfl) ?_
                    refine lv_iload_n hx hb d_M_order_89 rfl (lv_at hl 3 rfl) ?_
                    refine lv_icmp_ge (tgt := 165) hx hb d_M_order_90 (by decide) (fun c90 => ?_) (fun c90 => ?_)
                    · have hw := hw.1 c90
                      refine lv_iload_n hx hb d_M_order_165 rfl (lv_at hl 1 rfl) ?_
                      exact hret _ _ _ (o_at, o_isOut, vr) _ _ hw rfl hP hD hS d_M_order_166
                    · have hw := hw.2 c90
                      refine lv_iconst (v := (nI 0)) hx hb d_M_order_93 (by decide) ?_
                      refine lv_istore (lv' := [(4, .int (nI 0)), (3, .int x3), (2, .int x2), (0, .ref h_o), (1, .int x1)]) hx hb d_M_order_94 hl (by decide) rfl (fun ls hl => ?_)
                      refine lv_iconst (v := (nI 1)) hx hb d_M_order_96 (by decide) ?_
                      refine lv_istore (lv' := [(5, .int (nI 1)), (4, .int (nI 0)), (3, .int x3), (2, .int x2), (0, .ref h_o), (1, .int x1)]) hx hb d_M_order_97 hl (by decide) rfl (fun ls hl => ?_)
                      refine lv_iload_n hx hb d_M_order_99 rfl (lv_at hl 2 rfl) ?_
                      refine lv_iconst (v := (nI 1)) hx hb d_M_order_100 (by decide) ?_
                      refine lv_iadd hx hb d_M_order_101 ?_
                      refine lv_istore (lv' := [(6, .int (x3 + (nI 1))), (5, .int (nI 1)), (4, .int (nI 0)), (3, .int x3), (2, .int x2), (0, .ref h_o), (1, .int x1)]) hx hb d_M_order_102 hl (by decide) rfl (fun ls hl => ?_)
                      obtain ⟨n_104, hw⟩ := hw
                      have k_104 : ∀ (n_104 : Nat) (x4 : Int32) (x5 : Int32) (x6 : Int32), gL3 (wpF_M_order_104 (gL2 (wpF_M_order_88 post o_at o_isOut vr x1) n_88) vr x1 x2 x3) n_104 x4 x5 x6 → ∀ (H : Heap) (locs : List Loc) (ls : Array Slot), va_P D gCl [(h_o, .inr (3, [.ref o_weights, .ref o_tape, .int o_length, .int o_spent, .ref h_b, .int o_many, .int o_at, .int o_isOut, .ref h_r, .int o_values, .int o_failures, .int o_works])), (h_b, .inl (cI, 256, .inl vb)), (h_r, .inl (cI, 4, .inl vr))] H → va_D A [(h_o, .inr (3, [.ref o_weights, .ref o_tape, .int o_length, .int o_spent, .ref h_b, .int o_many, .int o_at, .int o_isOut, .ref h_r, .int o_values, .int o_failures, .int o_works])), (h_b, .inl (cI, 256, .inl vb)), (h_r, .inl (cI, 4, .inl vr))] → va_S A s.heap H locs → lv_has ls 7 [(6, .int x6), (5, .int x5), (4, .int x4), (3, .int x3), (2, .int x2), (0, .ref h_o), (1, .int x1)] → W p l e rm_M_order s m args below meth c H locs 0 0 Q (F0 m 104 ls []) := by
                        clear hw hP hD hS hl
                        intro n_104
                        induction n_104 with
                        | zero => exact fun _ _ _ h => h.elim
                        | succ n_104 ih_104 =>
                          intro x4 x5 x6 hw H locs ls hP hD hS hl
                          have hw : wpF_M_order_104 (gL2 (wpF_M_order_88 post o_at o_isOut vr x1) n_88) vr x1 x2 x3 (gL3 (wpF_M_order_104 (gL2 (wpF_M_order_88 post o_at o_isOut vr x1) n_88) vr x1 x2 x3) n_104) x4 x5 x6 := hw
                          rw [wpF_M_order_104] at hw
                          refine lv_iload hx hb d_M_order_104 (lv_at hl 0 rfl) ?_
                          refine lv_iload_n hx hb d_M_order_106 rfl (lv_at hl 6 rfl) ?_
                          refine lv_icmp_ge (tgt := 151) hx hb d_M_order_107 (by decide) (fun c107 => ?_) (fun c107 => ?_)
                          · have hw := hw.1 c107
                            refine lv_iload_n hx hb d_M_order_151 rfl (lv_at hl 4 rfl) ?_
                            refine lv_iload hx hb d_M_order_152 (lv_at hl 2 rfl) ?_
                            refine lv_iload hx hb d_M_order_154 (lv_at hl 1 rfl) ?_
                            refine lv_imul hx hb d_M_order_156 ?_
                            refine lv_iadd hx hb d_M_order_157 ?_
                            refine lv_istore_n (lv' := [(2, .int (x2 + (x4 * x5))), (6, .int x6), (5, .int x5), (4, .int x4), (3, .int x3), (0, .ref h_o), (1, .int x1)]) hx hb d_M_order_158 rfl hl (by decide) rfl (fun ls hl => ?_)
                            refine lv_iinc (v := (x3 + (nI 1))) (lv' := [(3, .int (x3 + (nI 1))), (2, .int (x2 + (x4 * x5))), (6, .int x6), (5, .int x5), (4, .int x4), (0, .ref h_o), (1, .int x1)]) hx hb d_M_order_159 hl (k := 4) rfl rfl (by decide) rfl (fun ls hl => ?_)
                            refine lv_goto (tgt := 88) hx hb d_M_order_162 (by decide) ?_
                            exact ih_88 _ _ hw _ _ _ hP hD hS (lv_sub hl [0, 1, 5, 6] rfl)
                          · have hw := hw.2 c107
                            refine lv_iload hx hb d_M_order_110 (lv_at hl 2 rfl) ?_
                            refine lv_aload_n hx hb d_M_order_112 rfl (lv_at hl 5 rfl) ?_
                            refine gGet fx hK hP 0 rfl inM rfl (k := 8) (by decide) w_235 rfl d_M_order_113 ?_
                            refine lv_iload hx hb d_M_order_116 (lv_at hl 0 rfl) ?_
                            refine va_iald hx hb hK hP 2 0 rfl rfl hw.1 d_M_order_118 ?_
                            have hw := hw.2
                            refine lv_aload_n hx hb d_M_order_119 rfl (lv_at hl 5 rfl) ?_
                            refine gGet fx hK hP 0 rfl inM rfl (k := 8) (by decide) w_235 rfl d_M_order_120 ?_
                            refine lv_iload_n hx hb d_M_order_123 rfl (lv_at hl 3 rfl) ?_
                            refine va_iald hx hb hK hP 2 0 rfl rfl hw.1 d_M_order_124 ?_
                            have hw := hw.2
                            refine lv_icmp_ge (tgt := 132) hx hb d_M_order_125 (by decide) (fun c125 => ?_) (fun c125 => ?_)
                            · have hw := hw.1 c125
                              refine lv_iconst (v := (nI 0)) hx hb d_M_order_132 (by decide) ?_
                              refine lv_iadd hx hb d_M_order_133 ?_
                              refine lv_istore (lv' := [(4, .int (x4 + (nI 0))), (6, .int x6), (5, .int x5), (3, .int x3), (2, .int x2), (0, .ref h_o), (1, .int x1)]) hx hb d_M_order_134 hl (by decide) rfl (fun ls hl => ?_)
                              refine lv_iload hx hb d_M_order_136 (lv_at hl 2 rfl) ?_
                              refine lv_iload hx hb d_M_order_138 (lv_at hl 1 rfl) ?_
                              refine lv_iload_n hx hb d_M_order_140 rfl (lv_at hl 3 rfl) ?_
                              refine lv_isub hx hb d_M_order_141 ?_
                              refine lv_imul hx hb d_M_order_142 ?_
                              refine lv_istore (lv' := [(5, .int (x5 * (x6 - x3))), (4, .int (x4 + (nI 0))), (6, .int x6), (3, .int x3), (2, .int x2), (0, .ref h_o), (1, .int x1)]) hx hb d_M_order_143 hl (by decide) rfl (fun ls hl => ?_)
                              refine lv_iinc (v := (x6 + (nI 1))) (lv' := [(6, .int (x6 + (nI 1))), (5, .int (x5 * (x6 - x3))), (4, .int (x4 + (nI 0))), (3, .int x3), (2, .int x2), (0, .ref h_o), (1, .int x1)]) hx hb d_M_order_145 hl (k := 2) rfl rfl (by decide) rfl (fun ls hl => ?_)
                              refine lv_goto (tgt := 104) hx hb d_M_order_148 (by decide) ?_
                              exact ih_104 _ _ _ hw _ _ _ hP hD hS (lv_sub hl [0, 1, 2, 3, 4, 5, 6] rfl)
                            · have hw := hw.2 c125
                              refine lv_iconst (v := (nI 1)) hx hb d_M_order_128 (by decide) ?_
                              refine lv_goto (tgt := 133) hx hb d_M_order_129 (by decide) ?_
                              refine lv_iadd hx hb d_M_order_133 ?_
                              refine lv_istore (lv' := [(4, .int (x4 + (nI 1))), (6, .int x6), (5, .int x5), (3, .int x3), (2, .int x2), (0, .ref h_o), (1, .int x1)]) hx hb d_M_order_134 hl (by decide) rfl (fun ls hl => ?_)
                              refine lv_iload hx hb d_M_order_136 (lv_at hl 2 rfl) ?_
                              refine lv_iload hx hb d_M_order_138 (lv_at hl 1 rfl) ?_
                              refine lv_iload_n hx hb d_M_order_140 rfl (lv_at hl 3 rfl) ?_
                              refine lv_isub hx hb d_M_order_141 ?_
                              refine lv_imul hx hb d_M_order_142 ?_
                              refine lv_istore (lv' := [(5, .int (x5 * (x6 - x3))), (4, .int (x4 + (nI 1))), (6, .int x6), (3, .int x3), (2, .int x2), (0, .ref h_o), (1, .int x1)]) hx hb d_M_order_143 hl (by decide) rfl (fun ls hl => ?_)
                              refine lv_iinc (v := (x6 + (nI 1))) (lv' := [(6, .int (x6 + (nI 1))), (5, .int (x5 * (x6 - x3))), (4, .int (x4 + (nI 1))), (3, .int x3), (2, .int x2), (0, .ref h_o), (1, .int x1)]) hx hb d_M_order_145 hl (k := 2) rfl rfl (by decide) rfl (fun ls hl => ?_)
                              refine lv_goto (tgt := 104) hx hb d_M_order_148 (by decide) ?_
                              exact ih_104 _ _ _ hw _ _ _ hP hD hS (lv_sub hl [0, 1, 2, 3, 4, 5, 6] rfl)
                      exact k_104 n_104 _ _ _ hw _ _ _ hP hD hS (lv_sub hl [0, 1, 2, 3, 4, 5, 6] rfl)
                exact k_88 n_88 _ _ hw _ _ _ hP hD hS (lv_sub hl [0, 1, 2, 3] rfl)
              · have hw := hw.2 c32
                refine lv_aload_n hx hb d_M_order_35 rfl (lv_at hl 1 rfl) ?_
                refine lv_iload_n hx hb d_M_order_36 rfl (lv_at hl 0 rfl) ?_
                refine lv_iconst (v := (nI 1)) hx hb d_M_order_37 (by decide) ?_
                refine lv_iadd hx hb d_M_order_38 ?_
                refine g_cVi (wr := [(h_r, .inl (cI, 4, .inl vr))]) fx (c_M_plain l D cI h_o h_b o_weights o_tape h_r o_length o_spent o_many o_at o_isOut o_values o_failures o_works vb (x2 + (nI 1)) _ hw) mf_M_plain w_297 ⟨rfl, rfl⟩ ⟨Nat.le_of_ble_eq_true rfl, Nat.le_of_ble_eq_true rfl⟩ hN hK hA hP hD hS [0, 1] [2] rfl rfl rfl rfl (by decide) 0 rfl rfl rfl rfl hl.1 (Nat.le_of_ble_eq_true rfl) d_M_order_39 ⟨Nat.zero_le _, Nat.zero_le _⟩ (fun r_1 u H locs hw hP hD hS => ?_)
                obtain ⟨oat_2, oisOut_3⟩ := u
                try dsimp only at hw
                have hP : va_P D gCl [(h_r, .inl (cI, 4, .inl vr)), (h_o, .inr (3, [.ref o_weights, .ref o_tape, .int o_length, .int o_spent, .ref h_b, .int o_many, .int oat_2, .int oisOut_3, .ref h_r, .int o_values, .int o_failures, .int o_works])), (h_b, .inl (cI, 256, .inl vb))] H := hP
                have hD : va_D A [(h_r, .inl (cI, 4, .inl vr)), (h_o, .inr (3, [.ref o_weights, .ref o_tape, .int o_length, .int o_spent, .ref h_b, .int o_many, .int oat_2, .int oisOut_3, .ref h_r, .int o_values, .int o_failures, .int o_works])), (h_b, .inl (cI, 256, .inl vb))] := hD
                refine lv_istore_n (lv' := [(3, .int r_1), (2, .int x2), (0, .ref h_o), (1, .int x1)]) hx hb d_M_order_42 rfl hl (by decide) rfl (fun ls hl => ?_)
                refine lv_aload_n hx hb d_M_order_43 rfl (lv_at hl 2 rfl) ?_
                refine gGet fx hK hP 1 rfl inM rfl (k := 7) (by decide) w_234 rfl d_M_order_44 ?_
                refine lv_if_ne (tgt := 78) hx hb d_M_order_47 (by decide) (fun c47 => ?_) (fun c47 => ?_)
                · have hw := hw.1 c47
                  refine lv_iinc (v := (x2 + (-1))) (lv' := [(2, .int (x2 + (-1))), (3, .int r_1), (0, .ref h_o), (1, .int x1)]) hx hb d_M_order_78 hl (k := 1) rfl (by rw [i32_m1]) (by decide) rfl (fun ls hl => ?_)
                  refine lv_goto (tgt := 24) hx hb d_M_order_81 (by decide) ?_
                  exact ih_24 _ _ _ _ hw _ _ _ (gSubP hP [1, 2, 0] rfl) (hD.sub [1, 2, 0] rfl rfl) hS (lv_sub hl [0, 2, 3] rfl)
                · have hw := hw.2 c47
                  refine lv_aload_n hx hb d_M_order_50 rfl (lv_at hl 2 rfl) ?_
                  refine gGet fx hK hP 1 rfl inM rfl (k := 8) (by decide) w_235 rfl d_M_order_51 ?_
                  refine lv_iload_n hx hb d_M_order_54 rfl (lv_at hl 1 rfl) ?_
                  refine va_iald hx hb hK hP 0 0 rfl rfl hw.1 d_M_order_55 ?_
                  have hw := hw.2
                  refine lv_istore (lv' := [(4, .int (vr (x2).toNatClampNeg)), (3, .int r_1), (2, .int x2), (0, .ref h_o), (1, .int x1)]) hx hb d_M_order_56 hl (by decide) rfl (fun ls hl => ?_)
                  refine lv_aload_n hx hb d_M_order_58 rfl (lv_at hl 3 rfl) ?_
                  refine gGet fx hK hP 1 rfl inM rfl (k := 8) (by decide) w_235 rfl d_M_order_59 ?_
                  refine lv_iload_n hx hb d_M_order_62 rfl (lv_at hl 2 rfl) ?_
                  refine lv_aload_n hx hb d_M_order_63 rfl (lv_at hl 3 rfl) ?_
                  refine gGet fx hK hP 1 rfl inM rfl (k := 8) (by decide) w_235 rfl d_M_order_64 ?_
                  refine lv_iload_n hx hb d_M_order_67 rfl (lv_at hl 1 rfl) ?_
                  refine va_iald hx hb hK hP 0 0 rfl rfl hw.1 d_M_order_68 ?_
                  have hw := hw.2
                  refine va_iast hx hb hK hP hD hS 0 0 rfl rfl hw.1 d_M_order_69 (fun H locs hP hD hS => ?_)
                  have hw := hw.2
                  have hP : va_P D gCl [(h_r, .inl (cI, 4, .inl (upd vr (x2).toNatClampNeg (vr (r_1).toNatClampNeg)))), (h_o, .inr (3, [.ref o_weights, .ref o_tape, .int o_length, .int o_spent, .ref h_b, .int o_many, .int oat_2, .int oisOut_3, .ref h_r, .int o_values, .int o_failures, .int o_works])), (h_b, .inl (cI, 256, .inl vb))] H := hP
                  have hD : va_D A [(h_r, .inl (cI, 4, .inl (upd vr (x2).toNatClampNeg (vr (r_1).toNatClampNeg)))), (h_o, .inr (3, [.ref o_weights, .ref o_tape, .int o_length, .int o_spent, .ref h_b, .int o_many, .int oat_2, .int oisOut_3, .ref h_r, .int o_values, .int o_failures, .int o_works])), (h_b, .inl (cI, 256, .inl vb))] := hD
                  refine lv_aload_n hx hb d_M_order_70 rfl (lv_at hl 3 rfl) ?_
                  refine gGet fx hK hP 1 rfl inM rfl (k := 8) (by decide) w_235 rfl d_M_order_71 ?_
                  refine lv_iload_n hx hb d_M_order_74 rfl (lv_at hl 1 rfl) ?_
                  refine lv_iload hx hb d_M_order_75 (lv_at hl 0 rfl) ?_
                  refine va_iast hx hb hK hP hD hS 0 0 rfl rfl hw.1 d_M_order_77 (fun H locs hP hD hS => ?_)
                  have hw := hw.2
                  have hP : va_P D gCl [(h_r, .inl (cI, 4, .inl (upd (upd vr (x2).toNatClampNeg (vr (r_1).toNatClampNeg)) (r_1).toNatClampNeg (vr (x2).toNatClampNeg)))), (h_o, .inr (3, [.ref o_weights, .ref o_tape, .int o_length, .int o_spent, .ref h_b, .int o_many, .int oat_2, .int oisOut_3, .ref h_r, .int o_values, .int o_failures, .int o_works])), (h_b, .inl (cI, 256, .inl vb))] H := hP
                  have hD : va_D A [(h_r, .inl (cI, 4, .inl (upd (upd vr (x2).toNatClampNeg (vr (r_1).toNatClampNeg)) (r_1).toNatClampNeg (vr (x2).toNatClampNeg)))), (h_o, .inr (3, [.ref o_weights, .ref o_tape, .int o_length, .int o_spent, .ref h_b, .int o_many, .int oat_2, .int oisOut_3, .ref h_r, .int o_values, .int o_failures, .int o_works])), (h_b, .inl (cI, 256, .inl vb))] := hD
                  refine lv_iinc (v := (x2 + (-1))) (lv' := [(2, .int (x2 + (-1))), (4, .int (vr (x2).toNatClampNeg)), (3, .int r_1), (0, .ref h_o), (1, .int x1)]) hx hb d_M_order_78 hl (k := 2) rfl (by rw [i32_m1]) (by decide) rfl (fun ls hl => ?_)
                  refine lv_goto (tgt := 24) hx hb d_M_order_81 (by decide) ?_
                  exact ih_24 _ _ _ _ hw _ _ _ (gSubP hP [1, 2, 0] rfl) (hD.sub [1, 2, 0] rfl rfl) hS (lv_sub hl [0, 3, 4] rfl)
        exact k_24 n_24 _ _ _ _ hw _ _ _ hP hD hS (lv_sub hl [0, 1, 2] rfl)
      · have hw := hw.2 c4
        refine lv_aload_n hx hb d_M_order_7 rfl (lv_at hl 1 rfl) ?_
        refine gGet fx hK hP 0 rfl inM rfl (k := 8) (by decide) w_235 rfl d_M_order_8 ?_
        refine lv_iload_n hx hb d_M_order_11 rfl (lv_at hl 0 rfl) ?_
        refine lv_iload_n hx hb d_M_order_12 rfl (lv_at hl 0 rfl) ?_
        refine va_iast hx hb hK hP hD hS 2 0 rfl rfl hw.1 d_M_order_13 (fun H locs hP hD hS => ?_)
        have hw := hw.2
        have hP : va_P D gCl [(h_o, .inr (3, [.ref o_weights, .ref o_tape, .int o_length, .int o_spent, .ref h_b, .int o_many, .int o_at, .int o_isOut, .ref h_r, .int o_values, .int o_failures, .int o_works])), (h_b, .inl (cI, 256, .inl vb)), (h_r, .inl (cI, 4, .inl (upd vr (x2).toNatClampNeg x2)))] H := hP
        have hD : va_D A [(h_o, .inr (3, [.ref o_weights, .ref o_tape, .int o_length, .int o_spent, .ref h_b, .int o_many, .int o_at, .int o_isOut, .ref h_r, .int o_values, .int o_failures, .int o_works])), (h_b, .inl (cI, 256, .inl vb)), (h_r, .inl (cI, 4, .inl (upd vr (x2).toNatClampNeg x2)))] := hD
        refine lv_iinc (v := (x2 + (nI 1))) (lv' := [(2, .int (x2 + (nI 1))), (0, .ref h_o), (1, .int x1)]) hx hb d_M_order_14 hl (k := 0) rfl rfl (by decide) rfl (fun ls hl => ?_)
        refine lv_goto (tgt := 2) hx hb d_M_order_17 (by decide) ?_
        exact ih_2 _ _ hw _ _ _ hP hD hS (lv_sub hl [0, 1, 2] rfl)
  exact k_2 n_2 _ _ hw _ _ _ hP hD hS (lv_sub hl [0, 1, 2] rfl)
def wpF_M_share_18 (post : Int32 → Int32 → Int32 → Prop) (o_at : Int32) (o_isOut : Int32) (vw : Nat → Int32) (x1 : Int32) (K_18 : Int32 → Int32 → Prop) (x2 : Int32) (x3 : Int32) : Prop :=
  (((nI 7) ≤ x2 → post x2 o_at o_isOut) ∧ (¬ (nI 7) ≤ x2 → ((x1 < x3 → post x2 o_at o_isOut) ∧ (¬ x1 < x3 → (vp_in (x2 + (nI 1)) 8 ∧ K_18 (x2 + (nI 1)) (x3 + (vw ((x2 + (nI 1))).toNatClampNeg)))))))
def wp_M_share (post : Int32 → Int32 → Int32 → Prop) (o_length : Int32) (o_spent : Int32) (o_many : Int32) (o_at : Int32) (o_isOut : Int32) (o_values : Int32) (o_failures : Int32) (o_works : Int32) (vb : Nat → Int32) (vw : Nat → Int32) : Prop :=
  wp_M_sum (fun r_1 => wp_M_plain (fun r_2 oat_3 oisOut_4 => (vp_in (nI 0) 8 ∧ (∃ n, gL2 (wpF_M_share_18 post oat_3 oisOut_4 vw r_2) n (nI 0) (vw ((nI 0)).toNatClampNeg)))) o_length o_spent o_many o_at o_isOut o_values o_failures o_works vb r_1) o_length o_spent o_many o_at o_isOut o_values o_failures o_works vw
abbrev rm_M_share : Room := { frames := 2, cells := 0, slots := 0, locals := 43 }
theorem mf_M_share : gFV y_M_share b_M_share 4 (some .int) 0 := ⟨w_324, w_4, ⟨by decide, by decide, by decide +kernel⟩, w_323, ws_1_15⟩
set_option maxHeartbeats 4000000 in
set_option maxRecDepth 100000 in
theorem c_M_share (l : Launch) (D : va_G) (cI : ClassId) (h_o : Nat) (h_b : Nat) (h_w : Nat) (o_tape : Nat) (o_row : Nat) (o_length : Int32) (o_spent : Int32) (o_many : Int32) (o_at : Int32) (o_isOut : Int32) (o_values : Int32) (o_failures : Int32) (o_works : Int32) (vb : Nat → Int32) (vw : Nat → Int32) (post : Int32 → Int32 → Int32 → Prop) (hw : wp_M_share post o_length o_spent o_many o_at o_isOut o_values o_failures o_works vb vw) :
    gMi l D [(cI, .int)] y_M_share b_M_share 4 .int rm_M_share [.ref h_o] [(h_o, .inr (3, [.ref h_w, .ref o_tape, .int o_length, .int o_spent, .ref h_b, .int o_many, .int o_at, .int o_isOut, .ref o_row, .int o_values, .int o_failures, .int o_works])), (h_b, .inl (cI, 256, .inl vb)), (h_w, .inl (cI, 8, .inl vw))] (S := Int32 × Int32) (fun u => [(h_o, .inr (3, [.ref h_w, .ref o_tape, .int o_length, .int o_spent, .ref h_b, .int o_many, .int u.1, .int u.2, .ref o_row, .int o_values, .int o_failures, .int o_works])), (h_b, .inl (cI, 256, .inl vb)), (h_w, .inl (cI, 8, .inl vw))]) (fun r u => post r u.1 u.2) := by
  rw [wp_M_share] at hw
  refine gMi.of (by decide) (Nat.le_of_ble_eq_true rfl) (fun p e s m args below meth c A Q ls hx hb hml hown hts hN hK hA hP hD hret hl => ?_)
  have fx : CallFix p m c b_M_share 4 s args gG "TapeCounterModel" := ⟨hx, hb, hml, hown, hts⟩
  have hl : lv_has ls 4 [(0, .ref h_o)] := hl
  have hS : va_S A s.heap s.heap [] := va_S.rf
  refine lv_aload_n hx hb d_M_share_0 rfl (lv_at hl 0 rfl) ?_
  refine lv_aload_n hx hb d_M_share_1 rfl (lv_at hl 0 rfl) ?_
  refine g_cVi (wr := [(h_b, .inl (cI, 256, .inl vb))]) fx (c_M_sum l D cI h_o h_w o_tape h_b o_row o_length o_spent o_many o_at o_isOut o_values o_failures o_works vw _ hw) mf_M_sum w_284 ⟨rfl, rfl⟩ ⟨Nat.le_of_ble_eq_true rfl, Nat.le_of_ble_eq_true rfl⟩ hN hK hA hP hD hS [0, 2] [1] rfl rfl rfl rfl (by decide) 0 rfl rfl rfl rfl hl.1 (Nat.le_of_ble_eq_true rfl) d_M_share_2 ⟨Nat.zero_le _, Nat.zero_le _⟩ (fun r_1 u H locs hw hP hD hS => ?_)
  try dsimp only at hw
  have hP : va_P D gCl [(h_b, .inl (cI, 256, .inl vb)), (h_o, .inr (3, [.ref h_w, .ref o_tape, .int o_length, .int o_spent, .ref h_b, .int o_many, .int o_at, .int o_isOut, .ref o_row, .int o_values, .int o_failures, .int o_works])), (h_w, .inl (cI, 8, .inl vw))] H := hP
  have hD : va_D A [(h_b, .inl (cI, 256, .inl vb)), (h_o, .inr (3, [.ref h_w, .ref o_tape, .int o_length, .int o_spent, .ref h_b, .int o_many, .int o_at, .int o_isOut, .ref o_row, .int o_values, .int o_failures, .int o_works])), (h_w, .inl (cI, 8, .inl vw))] := hD
  refine g_cVi (wr := [(h_w, .inl (cI, 8, .inl vw))]) fx (c_M_plain l D cI h_o h_b h_w o_tape o_row o_length o_spent o_many o_at o_isOut o_values o_failures o_works vb r_1 _ hw) mf_M_plain w_297 ⟨rfl, rfl⟩ ⟨Nat.le_of_ble_eq_true rfl, Nat.le_of_ble_eq_true rfl⟩ hN hK hA hP hD hS [1, 0] [2] rfl rfl rfl rfl (by decide) 0 rfl rfl rfl rfl hl.1 (Nat.le_of_ble_eq_true rfl) d_M_share_5 ⟨Nat.zero_le _, Nat.zero_le _⟩ (fun r_2 u H locs hw hP hD hS => ?_)
  obtain ⟨oat_3, oisOut_4⟩ := u
  try dsimp only at hw
  have hP : va_P D gCl [(h_w, .inl (cI, 8, .inl vw)), (h_o, .inr (3, [.ref h_w, .ref o_tape, .int o_length, .int o_spent, .ref h_b, .int o_many, .int oat_3, .int oisOut_4, .ref o_row, .int o_values, .int o_failures, .int o_works])), (h_b, .inl (cI, 256, .inl vb))] H := hP
  have hD : va_D A [(h_w, .inl (cI, 8, .inl vw)), (h_o, .inr (3, [.ref h_w, .ref o_tape, .int o_length, .int o_spent, .ref h_b, .int o_many, .int oat_3, .int oisOut_4, .ref o_row, .int o_values, .int o_failures, .int o_works])), (h_b, .inl (cI, 256, .inl vb))] := hD
  refine lv_istore_n (lv' := [(1, .int r_2), (0, .ref h_o)]) hx hb d_M_share_8 rfl hl (by decide) rfl (fun ls hl => ?_)
  refine lv_iconst (v := (nI 0)) hx hb d_M_share_9 (by decide) ?_
  refine lv_istore_n (lv' := [(2, .int (nI 0)), (1, .int r_2), (0, .ref h_o)]) hx hb d_M_share_10 rfl hl (by decide) rfl (fun ls hl => ?_)
  refine lv_aload_n hx hb d_M_share_11 rfl (lv_at hl 2 rfl) ?_
  refine gGet fx hK hP 1 rfl inM rfl (k := 0) (by decide) w_227 rfl d_M_share_12 ?_
  refine lv_iconst (v := (nI 0)) hx hb d_M_share_15 (by decide) ?_
  refine va_iald hx hb hK hP 0 0 rfl rfl hw.1 d_M_share_16 ?_
  have hw := hw.2
  refine lv_istore_n (lv' := [(3, .int (vw ((nI 0)).toNatClampNeg)), (2, .int (nI 0)), (1, .int r_2), (0, .ref h_o)]) hx hb d_M_share_17 rfl hl (by decide) rfl (fun ls hl => ?_)
  obtain ⟨n_18, hw⟩ := hw
  have k_18 : ∀ (o_at : Int32) (o_isOut : Int32) (x1 : Int32) (n_18 : Nat) (x2 : Int32) (x3 : Int32), gL2 (wpF_M_share_18 post o_at o_isOut vw x1) n_18 x2 x3 → ∀ (H : Heap) (locs : List Loc) (ls : Array Slot), va_P D gCl [(h_w, .inl (cI, 8, .inl vw)), (h_o, .inr (3, [.ref h_w, .ref o_tape, .int o_length, .int o_spent, .ref h_b, .int o_many, .int o_at, .int o_isOut, .ref o_row, .int o_values, .int o_failures, .int o_works])), (h_b, .inl (cI, 256, .inl vb))] H → va_D A [(h_w, .inl (cI, 8, .inl vw)), (h_o, .inr (3, [.ref h_w, .ref o_tape, .int o_length, .int o_spent, .ref h_b, .int o_many, .int o_at, .int o_isOut, .ref o_row, .int o_values, .int o_failures, .int o_works])), (h_b, .inl (cI, 256, .inl vb))] → va_S A s.heap H locs → lv_has ls 4 [(3, .int x3), (2, .int x2), (1, .int x1), (0, .ref h_o)] → W p l e rm_M_share s m args below meth c H locs 0 0 Q (F0 m 18 ls []) := by
    clear hw hP hD hS hl
    intro o_at o_isOut x1 n_18
    induction n_18 with
    | zero => exact fun _ _ h => h.elim
    | succ n_18 ih_18 =>
      intro x2 x3 hw H locs ls hP hD hS hl
      have hw : wpF_M_share_18 post o_at o_isOut vw x1 (gL2 (wpF_M_share_18 post o_at o_isOut vw x1) n_18) x2 x3 := hw
      rw [wpF_M_share_18] at hw
      refine lv_iload_n hx hb d_M_share_18 rfl (lv_at hl 1 rfl) ?_
      refine lv_bipush (v := (nI 7)) hx hb d_M_share_19 (by decide) ?_
      refine lv_icmp_ge (tgt := 44) hx hb d_M_share_21 (by decide) (fun c21 => ?_) (fun c21 => ?_)
      · have hw := hw.1 c21
        refine lv_iload_n hx hb d_M_share_44 rfl (lv_at hl 1 rfl) ?_
        exact hret _ _ _ (o_at, o_isOut) _ _ hw rfl (gSubP hP [1, 2, 0] rfl) (hD.sub [1, 2, 0] rfl rfl) hS d_M_share_45
      · have hw := hw.2 c21
        refine lv_iload_n hx hb d_M_share_24 rfl (lv_at hl 0 rfl) ?_
        refine lv_iload_n hx hb d_M_share_25 rfl (lv_at hl 2 rfl) ?_
        refine lv_icmp_gt (tgt := 44) hx hb d_M_share_26 (by decide) (fun c26 => ?_) (fun c26 => ?_)
        · have hw := hw.1 c26
          refine lv_iload_n hx hb d_M_share_44 rfl (lv_at hl 1 rfl) ?_
          exact hret _ _ _ (o_at, o_isOut) _ _ hw rfl (gSubP hP [1, 2, 0] rfl) (hD.sub [1, 2, 0] rfl rfl) hS d_M_share_45
        · have hw := hw.2 c26
          refine lv_iinc (v := (x2 + (nI 1))) (lv' := [(2, .int (x2 + (nI 1))), (3, .int x3), (1, .int x1), (0, .ref h_o)]) hx hb d_M_share_29 hl (k := 1) rfl rfl (by decide) rfl (fun ls hl => ?_)
          refine lv_iload_n hx hb d_M_share_32 rfl (lv_at hl 1 rfl) ?_
          refine lv_aload_n hx hb d_M_share_33 rfl (lv_at hl 3 rfl) ?_
          refine gGet fx hK hP 1 rfl inM rfl (k := 0) (by decide) w_227 rfl d_M_share_34 ?_
          refine lv_iload_n hx hb d_M_share_37 rfl (lv_at hl 0 rfl) ?_
          refine va_iald hx hb hK hP 0 0 rfl rfl hw.1 d_M_share_38 ?_
          have hw := hw.2
          refine lv_iadd hx hb d_M_share_39 ?_
          refine lv_istore_n (lv' := [(3, .int (x3 + (vw ((x2 + (nI 1))).toNatClampNeg))), (2, .int (x2 + (nI 1))), (1, .int x1), (0, .ref h_o)]) hx hb d_M_share_40 rfl hl (by decide) rfl (fun ls hl => ?_)
          refine lv_goto (tgt := 18) hx hb d_M_share_41 (by decide) ?_
          exact ih_18 _ _ hw _ _ _ hP hD hS (lv_sub hl [0, 1, 2, 3] rfl)
  exact k_18 oat_3 oisOut_4 r_2 n_18 _ _ hw _ _ _ hP hD hS (lv_sub hl [0, 1, 2, 3] rfl)
def wpF_M_run_77 (post : Int32 → Int32 → Int32 → (Nat → Int32) → Prop) (o_length : Int32) (o_spent : Int32) (o_many : Int32) (o_values : Int32) (o_failures : Int32) (o_works : Int32) (vb : Nat → Int32) (vr : Nat → Int32) (x2 : Int32) (K_77 : Int32 → Int32 → Int32 → Int32 → Prop) (o_at : Int32) (o_isOut : Int32) (x4 : Int32) (x5 : Int32) : Prop :=
  ((x2 ≤ x5 → post x4 o_at o_isOut vr) ∧ (¬ x2 ≤ x5 → wp_M_bit (fun r_10 oat_11 oisOut_12 => K_77 oat_11 oisOut_12 (x4 + r_10) (x5 + (nI 1))) o_length o_spent o_many o_at o_isOut o_values o_failures o_works vb))
def wpF_M_run_104 (post : Int32 → Int32 → Int32 → (Nat → Int32) → Prop) (o_length : Int32) (o_spent : Int32) (o_many : Int32) (o_values : Int32) (o_failures : Int32) (o_works : Int32) (vb : Nat → Int32) (vr : Nat → Int32) (x2 : Int32) (K_104 : Int32 → Int32 → Int32 → Prop) (o_at : Int32) (o_isOut : Int32) (x5 : Int32) : Prop :=
  ((x2 ≤ x5 → post x5 o_at o_isOut vr) ∧ (¬ x2 ≤ x5 → ((¬ o_isOut = 0 → post x5 o_at o_isOut vr) ∧ (o_isOut = 0 → wp_M_bit (fun r_13 oat_14 oisOut_15 => ((¬ r_13 = 0 → post x5 oat_14 oisOut_15 vr) ∧ (r_13 = 0 → K_104 oat_14 oisOut_15 (x5 + (nI 1))))) o_length o_spent o_many o_at o_isOut o_values o_failures o_works vb))))
def wp_M_run (post : Int32 → Int32 → Int32 → (Nat → Int32) → Prop) (o_length : Int32) (o_spent : Int32) (o_many : Int32) (o_at : Int32) (o_isOut : Int32) (o_values : Int32) (o_failures : Int32) (o_works : Int32) (vb : Nat → Int32) (vr : Nat → Int32) (vw : Nat → Int32) (x1 : Int32) (x2 : Int32) (x3 : Int32) : Prop :=
  ((x1 = nI 0 → wp_M_plain (fun r_1 oat_2 oisOut_3 => post r_1 oat_2 oisOut_3 vr) o_length o_spent o_many (nI 0) (nI 0) o_values o_failures o_works vb x2) ∧ (¬ x1 = nI 0 → ((x1 = nI 1 → wp_M_thrifty (fun r_4 oat_5 oisOut_6 => post r_4 oat_5 oisOut_6 vr) o_length o_spent o_many (nI 0) (nI 0) o_values o_failures o_works vb x2) ∧ (¬ x1 = nI 1 → ((x1 = nI 2 → wp_M_coin (fun r_7 oat_8 oisOut_9 => post r_7 oat_8 oisOut_9 vr) o_length o_spent o_many (nI 0) (nI 0) o_values o_failures o_works vb x2 x3) ∧ (¬ x1 = nI 2 → ((x1 = nI 3 → (∃ n, gL4 (wpF_M_run_77 post o_length o_spent o_many o_values o_failures o_works vb vr x2) n (nI 0) (nI 0) (nI 0) (nI 0))) ∧ (¬ x1 = nI 3 → ((x1 = nI 4 → (∃ n, gL3 (wpF_M_run_104 post o_length o_spent o_many o_values o_failures o_works vb vr x2) n (nI 0) (nI 0) (nI 0))) ∧ (¬ x1 = nI 4 → ((x1 = nI 5 → wp_M_order (fun r_16 oat_17 oisOut_18 vr_19 => post r_16 oat_17 oisOut_18 vr_19) o_length o_spent o_many (nI 0) (nI 0) o_values o_failures o_works vb vr x2) ∧ (¬ x1 = nI 5 → ((x1 = nI 6 → wp_M_choice (fun r_20 oat_21 oisOut_22 => post r_20 oat_21 oisOut_22 vr) o_length o_spent o_many (nI 0) (nI 0) o_values o_failures o_works vb x2 x3) ∧ (¬ x1 = nI 6 → wp_M_share (fun r_23 oat_24 oisOut_25 => post r_23 oat_24 oisOut_25 vr) o_length o_spent o_many (nI 0) (nI 0) o_values o_failures o_works vb vw))))))))))))))
abbrev rm_M_run : Room := { frames := 3, cells := 0, slots := 0, locals := 70 }
theorem mf_M_run : gFV y_M_run b_M_run 6 (some .int) 3 := ⟨w_296, w_4, ⟨by decide, by decide, by decide +kernel⟩, w_295, ws_1_8⟩
set_option maxHeartbeats 4000000 in
set_option maxRecDepth 100000 in
theorem c_M_run (l : Launch) (D : va_G) (cI : ClassId) (h_o : Nat) (h_b : Nat) (h_r : Nat) (h_w : Nat) (o_tape : Nat) (o_length : Int32) (o_spent : Int32) (o_many : Int32) (o_at : Int32) (o_isOut : Int32) (o_values : Int32) (o_failures : Int32) (o_works : Int32) (vb : Nat → Int32) (vr : Nat → Int32) (vw : Nat → Int32) (x1 : Int32) (x2 : Int32) (x3 : Int32) (post : Int32 → Int32 → Int32 → (Nat → Int32) → Prop) (hw : wp_M_run post o_length o_spent o_many o_at o_isOut o_values o_failures o_works vb vr vw x1 x2 x3) :
    gMi l D [(cI, .int)] y_M_run b_M_run 6 .int rm_M_run [.ref h_o, .int x1, .int x2, .int x3] [(h_o, .inr (3, [.ref h_w, .ref o_tape, .int o_length, .int o_spent, .ref h_b, .int o_many, .int o_at, .int o_isOut, .ref h_r, .int o_values, .int o_failures, .int o_works])), (h_b, .inl (cI, 256, .inl vb)), (h_r, .inl (cI, 4, .inl vr)), (h_w, .inl (cI, 8, .inl vw))] (S := Int32 × Int32 × (Nat → Int32)) (fun u => [(h_o, .inr (3, [.ref h_w, .ref o_tape, .int o_length, .int o_spent, .ref h_b, .int o_many, .int u.1, .int u.2.1, .ref h_r, .int o_values, .int o_failures, .int o_works])), (h_b, .inl (cI, 256, .inl vb)), (h_r, .inl (cI, 4, .inl u.2.2)), (h_w, .inl (cI, 8, .inl vw))]) (fun r u => post r u.1 u.2.1 u.2.2) := by
  rw [wp_M_run] at hw
  refine gMi.of (by decide) (Nat.le_of_ble_eq_true rfl) (fun p e s m args below meth c A Q ls hx hb hml hown hts hN hK hA hP hD hret hl => ?_)
  have fx : CallFix p m c b_M_run 6 s args gG "TapeCounterModel" := ⟨hx, hb, hml, hown, hts⟩
  have hl : lv_has ls 6 [(0, .ref h_o), (1, .int x1), (2, .int x2), (3, .int x3)] := hl
  have hS : va_S A s.heap s.heap [] := va_S.rf
  refine lv_aload_n hx hb d_M_run_0 rfl (lv_at hl 0 rfl) ?_
  refine lv_iconst (v := (nI 0)) hx hb d_M_run_1 (by decide) ?_
  refine gPut fx hK hP hD hS 0 rfl inM tyM nmM rfl (k := 6) (by decide) w_233 rfl rfl rfl (Nat.le_of_ble_eq_true rfl) d_M_run_2 (fun H locs hP hD hS => ?_)
  have hP : va_P D gCl [(h_o, .inr (3, [.ref h_w, .ref o_tape, .int o_length, .int o_spent, .ref h_b, .int o_many, .int (nI 0), .int o_isOut, .ref h_r, .int o_values, .int o_failures, .int o_works])), (h_b, .inl (cI, 256, .inl vb)), (h_r, .inl (cI, 4, .inl vr)), (h_w, .inl (cI, 8, .inl vw))] H := hP
  have hD : va_D A [(h_o, .inr (3, [.ref h_w, .ref o_tape, .int o_length, .int o_spent, .ref h_b, .int o_many, .int (nI 0), .int o_isOut, .ref h_r, .int o_values, .int o_failures, .int o_works])), (h_b, .inl (cI, 256, .inl vb)), (h_r, .inl (cI, 4, .inl vr)), (h_w, .inl (cI, 8, .inl vw))] := hD
  refine lv_aload_n hx hb d_M_run_5 rfl (lv_at hl 0 rfl) ?_
  refine lv_iconst (v := (nI 0)) hx hb d_M_run_6 (by decide) ?_
  refine gPut fx hK hP hD hS 0 rfl inM tyM nmM rfl (k := 7) (by decide) w_234 rfl rfl rfl (Nat.le_of_ble_eq_true rfl) d_M_run_7 (fun H locs hP hD hS => ?_)
  have hP : va_P D gCl [(h_o, .inr (3, [.ref h_w, .ref o_tape, .int o_length, .int o_spent, .ref h_b, .int o_many, .int (nI 0), .int (nI 0), .ref h_r, .int o_values, .int o_failures, .int o_works])), (h_b, .inl (cI, 256, .inl vb)), (h_r, .inl (cI, 4, .inl vr)), (h_w, .inl (cI, 8, .inl vw))] H := hP
  have hD : va_D A [(h_o, .inr (3, [.ref h_w, .ref o_tape, .int o_length, .int o_spent, .ref h_b, .int o_many, .int (nI 0), .int (nI 0), .ref h_r, .int o_values, .int o_failures, .int o_works])), (h_b, .inl (cI, 256, .inl vb)), (h_r, .inl (cI, 4, .inl vr)), (h_w, .inl (cI, 8, .inl vw))] := hD
  refine lv_iload_n hx hb d_M_run_10 rfl (lv_at hl 1 rfl) ?_
  rcases Classical.em (x1 = nI 0) with c11_0 | c11_0
  · have hw := hw.1 c11_0
    refine g_sw (nI 0) (tgt := 52) hx hb d_M_run_11 c11_0 (by decide) (by decide) rfl (by decide) ?_
    refine lv_aload_n hx hb d_M_run_52 rfl (lv_at hl 0 rfl) ?_
    refine lv_iload_n hx hb d_M_run_53 rfl (lv_at hl 2 rfl) ?_
    refine g_cVi (wr := [(h_r, .inl (cI, 4, .inl vr)), (h_w, .inl (cI, 8, .inl vw))]) fx (c_M_plain l D cI h_o h_b h_w o_tape h_r o_length o_spent o_many (nI 0) (nI 0) o_values o_failures o_works vb x2 _ hw) mf_M_plain w_297 ⟨rfl, rfl⟩ ⟨Nat.le_of_ble_eq_true rfl, Nat.le_of_ble_eq_true rfl⟩ hN hK hA hP hD hS [0, 1] [2, 3] rfl rfl rfl rfl (by decide) 0 rfl rfl rfl rfl hl.1 (Nat.le_of_ble_eq_true rfl) d_M_run_54 ⟨Nat.zero_le _, Nat.zero_le _⟩ (fun r_1 u H locs hw hP hD hS => ?_)
    obtain ⟨oat_2, oisOut_3⟩ := u
    try dsimp only at hw
    have hP : va_P D gCl [(h_r, .inl (cI, 4, .inl vr)), (h_w, .inl (cI, 8, .inl vw)), (h_o, .inr (3, [.ref h_w, .ref o_tape, .int o_length, .int o_spent, .ref h_b, .int o_many, .int oat_2, .int oisOut_3, .ref h_r, .int o_values, .int o_failures, .int o_works])), (h_b, .inl (cI, 256, .inl vb))] H := hP
    have hD : va_D A [(h_r, .inl (cI, 4, .inl vr)), (h_w, .inl (cI, 8, .inl vw)), (h_o, .inr (3, [.ref h_w, .ref o_tape, .int o_length, .int o_spent, .ref h_b, .int o_many, .int oat_2, .int oisOut_3, .ref h_r, .int o_values, .int o_failures, .int o_works])), (h_b, .inl (cI, 256, .inl vb))] := hD
    exact hret _ _ _ (oat_2, oisOut_3, vr) _ _ hw rfl (gSubP hP [2, 3, 0, 1] rfl) (hD.sub [2, 3, 0, 1] rfl rfl) hS d_M_run_57
  · have hw := hw.2 c11_0
    rcases Classical.em (x1 = nI 1) with c11_1 | c11_1
    · have hw := hw.1 c11_1
      refine g_sw (nI 1) (tgt := 58) hx hb d_M_run_11 c11_1 (by decide) (by decide) rfl (by decide) ?_
      refine lv_aload_n hx hb d_M_run_58 rfl (lv_at hl 0 rfl) ?_
      refine lv_iload_n hx hb d_M_run_59 rfl (lv_at hl 2 rfl) ?_
      refine g_cVi (wr := [(h_r, .inl (cI, 4, .inl vr)), (h_w, .inl (cI, 8, .inl vw))]) fx (c_M_thrifty l D cI h_o h_b h_w o_tape h_r o_length o_spent o_many (nI 0) (nI 0) o_values o_failures o_works vb x2 _ hw) mf_M_thrifty w_305 ⟨rfl, rfl⟩ ⟨Nat.le_of_ble_eq_true rfl, Nat.le_of_ble_eq_true rfl⟩ hN hK hA hP hD hS [0, 1] [2, 3] rfl rfl rfl rfl (by decide) 0 rfl rfl rfl rfl hl.1 (Nat.le_of_ble_eq_true rfl) d_M_run_60 ⟨Nat.zero_le _, Nat.zero_le _⟩ (fun r_4 u H locs hw hP hD hS => ?_)
      obtain ⟨oat_5, oisOut_6⟩ := u
      try dsimp only at hw
      have hP : va_P D gCl [(h_r, .inl (cI, 4, .inl vr)), (h_w, .inl (cI, 8, .inl vw)), (h_o, .inr (3, [.ref h_w, .ref o_tape, .int o_length, .int o_spent, .ref h_b, .int o_many, .int oat_5, .int oisOut_6, .ref h_r, .int o_values, .int o_failures, .int o_works])), (h_b, .inl (cI, 256, .inl vb))] H := hP
      have hD : va_D A [(h_r, .inl (cI, 4, .inl vr)), (h_w, .inl (cI, 8, .inl vw)), (h_o, .inr (3, [.ref h_w, .ref o_tape, .int o_length, .int o_spent, .ref h_b, .int o_many, .int oat_5, .int oisOut_6, .ref h_r, .int o_values, .int o_failures, .int o_works])), (h_b, .inl (cI, 256, .inl vb))] := hD
      exact hret _ _ _ (oat_5, oisOut_6, vr) _ _ hw rfl (gSubP hP [2, 3, 0, 1] rfl) (hD.sub [2, 3, 0, 1] rfl rfl) hS d_M_run_63
    · have hw := hw.2 c11_1
      rcases Classical.em (x1 = nI 2) with c11_2 | c11_2
      · have hw := hw.1 c11_2
        refine g_sw (nI 2) (tgt := 64) hx hb d_M_run_11 c11_2 (by decide) (by decide) rfl (by decide) ?_
        refine lv_aload_n hx hb d_M_run_64 rfl (lv_at hl 0 rfl) ?_
        refine lv_iload_n hx hb d_M_run_65 rfl (lv_at hl 2 rfl) ?_
        refine lv_iload_n hx hb d_M_run_66 rfl (lv_at hl 3 rfl) ?_
        refine g_cVi (wr := [(h_r, .inl (cI, 4, .inl vr)), (h_w, .inl (cI, 8, .inl vw))]) fx (c_M_coin l D cI h_o h_b h_w o_tape h_r o_length o_spent o_many (nI 0) (nI 0) o_values o_failures o_works vb x2 x3 _ hw) mf_M_coin w_309 ⟨rfl, rfl⟩ ⟨Nat.le_of_ble_eq_true rfl, Nat.le_of_ble_eq_true rfl⟩ hN hK hA hP hD hS [0, 1] [2, 3] rfl rfl rfl rfl (by decide) 0 rfl rfl rfl rfl hl.1 (Nat.le_of_ble_eq_true rfl) d_M_run_67 ⟨Nat.zero_le _, Nat.zero_le _⟩ (fun r_7 u H locs hw hP hD hS => ?_)
        obtain ⟨oat_8, oisOut_9⟩ := u
        try dsimp only at hw
        have hP : va_P D gCl [(h_r, .inl (cI, 4, .inl vr)), (h_w, .inl (cI, 8, .inl vw)), (h_o, .inr (3, [.ref h_w, .ref o_tape, .int o_length, .int o_spent, .ref h_b, .int o_many, .int oat_8, .int oisOut_9, .ref h_r, .int o_values, .int o_failures, .int o_works])), (h_b, .inl (cI, 256, .inl vb))] H := hP
        have hD : va_D A [(h_r, .inl (cI, 4, .inl vr)), (h_w, .inl (cI, 8, .inl vw)), (h_o, .inr (3, [.ref h_w, .ref o_tape, .int o_length, .int o_spent, .ref h_b, .int o_many, .int oat_8, .int oisOut_9, .ref h_r, .int o_values, .int o_failures, .int o_works])), (h_b, .inl (cI, 256, .inl vb))] := hD
        exact hret _ _ _ (oat_8, oisOut_9, vr) _ _ hw rfl (gSubP hP [2, 3, 0, 1] rfl) (hD.sub [2, 3, 0, 1] rfl rfl) hS d_M_run_70
      · have hw := hw.2 c11_2
        rcases Classical.em (x1 = nI 3) with c11_3 | c11_3
        · have hw := hw.1 c11_3
          refine g_sw (nI 3) (tgt := 71) hx hb d_M_run_11 c11_3 (by decide) (by decide) rfl (by decide) ?_
          refine lv_iconst (v := (nI 0)) hx hb d_M_run_71 (by decide) ?_
          refine lv_istore (lv' := [(4, .int (nI 0)), (0, .ref h_o), (1, .int x1), (2, .int x2), (3, .int x3)]) hx hb d_M_run_72 hl (by decide) rfl (fun ls hl => ?_)
          refine lv_iconst (v := (nI 0)) hx hb d_M_run_74 (by decide) ?_
          refine lv_istore (lv' := [(5, .int (nI 0)), (4, .int (nI 0)), (0, .ref h_o), (1, .int x1), (2, .int x2), (3, .int x3)]) hx hb d_M_run_75 hl (by decide) rfl (fun ls hl => ?_)
          obtain ⟨n_77, hw⟩ := hw
          have k_77 : ∀ (n_77 : Nat) (o_at : Int32) (o_isOut : Int32) (x4 : Int32) (x5 : Int32), gL4 (wpF_M_run_77 post o_length o_spent o_many o_values o_failures o_works vb vr x2) n_77 o_at o_isOut x4 x5 → ∀ (H : Heap) (locs : List Loc) (ls : Array Slot), va_P D gCl [(h_o, .inr (3, [.ref h_w, .ref o_tape, .int o_length, .int o_spent, .ref h_b, .int o_many, .int o_at, .int o_isOut, .ref h_r, .int o_values, .int o_failures, .int o_works])), (h_b, .inl (cI, 256, .inl vb)), (h_r, .inl (cI, 4, .inl vr)), (h_w, .inl (cI, 8, .inl vw))] H → va_D A [(h_o, .inr (3, [.ref h_w, .ref o_tape, .int o_length, .int o_spent, .ref h_b, .int o_many, .int o_at, .int o_isOut, .ref h_r, .int o_values, .int o_failures, .int o_works])), (h_b, .inl (cI, 256, .inl vb)), (h_r, .inl (cI, 4, .inl vr)), (h_w, .inl (cI, 8, .inl vw))] → va_S A s.heap H locs → lv_has ls 6 [(5, .int x5), (4, .int x4), (0, .ref h_o), (2, .int x2)] → W p l e rm_M_run s m args below meth c H locs 0 0 Q (F0 m 77 ls []) := by
            clear hw hP hD hS hl
            intro n_77
            induction n_77 with
            | zero => exact fun _ _ _ _ h => h.elim
            | succ n_77 ih_77 =>
              intro o_at o_isOut x4 x5 hw H locs ls hP hD hS hl
              have hw : wpF_M_run_77 post o_length o_spent o_many o_values o_failures o_works vb vr x2 (gL4 (wpF_M_run_77 post o_length o_spent o_many o_values o_failures o_works vb vr x2) n_77) o_at o_isOut x4 x5 := hw
              rw [wpF_M_run_77] at hw
              refine lv_iload hx hb d_M_run_77 (lv_at hl 0 rfl) ?_
              refine lv_iload_n hx hb d_M_run_79 rfl (lv_at hl 3 rfl) ?_
              refine lv_icmp_ge (tgt := 98) hx hb d_M_run_80 (by decide) (fun c80 => ?_) (fun c80 => ?_)
              · have hw := hw.1 c80
                refine lv_iload hx hb d_M_run_98 (lv_at hl 1 rfl) ?_
                exact hret _ _ _ (o_at, o_isOut, vr) _ _ hw rfl hP hD hS d_M_run_100
              · have hw := hw.2 c80
                refine lv_iload hx hb d_M_run_83 (lv_at hl 1 rfl) ?_
                refine lv_aload_n hx hb d_M_run_85 rfl (lv_at hl 2 rfl) ?_
                refine g_cVi (wr := [(h_r, .inl (cI, 4, .inl vr)), (h_w, .inl (cI, 8, .inl vw))]) fx (c_M_bit l D cI h_o h_b h_w o_tape h_r o_length o_spent o_many o_at o_isOut o_values o_failures o_works vb _ hw) mf_M_bit w_301 ⟨rfl, rfl⟩ ⟨Nat.le_of_ble_eq_true rfl, Nat.le_of_ble_eq_true rfl⟩ hN hK hA hP hD hS [0, 1] [2, 3] rfl rfl rfl rfl (by decide) 0 rfl rfl rfl rfl hl.1 (Nat.le_of_ble_eq_true rfl) d_M_run_86 ⟨Nat.zero_le _, Nat.zero_le _⟩ (fun r_10 u H locs hw hP hD hS => ?_)
                obtain ⟨oat_11, oisOut_12⟩ := u
                try dsimp only at hw
                have hP : va_P D gCl [(h_r, .inl (cI, 4, .inl vr)), (h_w, .inl (cI, 8, .inl vw)), (h_o, .inr (3, [.ref h_w, .ref o_tape, .int o_length, .int o_spent, .ref h_b, .int o_many, .int oat_11, .int oisOut_12, .ref h_r, .int o_values, .int o_failures, .int o_works])), (h_b, .inl (cI, 256, .inl vb))] H := hP
                have hD : va_D A [(h_r, .inl (cI, 4, .inl vr)), (h_w, .inl (cI, 8, .inl vw)), (h_o, .inr (3, [.ref h_w, .ref o_tape, .int o_length, .int o_spent, .ref h_b, .int o_many, .int oat_11, .int oisOut_12, .ref h_r, .int o_values, .int o_failures, .int o_works])), (h_b, .inl (cI, 256, .inl vb))] := hD
                refine lv_iadd hx hb d_M_run_89 ?_
                refine lv_istore (lv' := [(4, .int (x4 + r_10)), (5, .int x5), (0, .ref h_o), (2, .int x2)]) hx hb d_M_run_90 hl (by decide) rfl (fun ls hl => ?_)
                refine lv_iinc (v := (x5 + (nI 1))) (lv' := [(5, .int (x5 + (nI 1))), (4, .int (x4 + r_10)), (0, .ref h_o), (2, .int x2)]) hx hb d_M_run_92 hl (k := 1) rfl rfl (by decide) rfl (fun ls hl => ?_)
                refine lv_goto (tgt := 77) hx hb d_M_run_95 (by decide) ?_
                exact ih_77 _ _ _ _ hw _ _ _ (gSubP hP [2, 3, 0, 1] rfl) (hD.sub [2, 3, 0, 1] rfl rfl) hS (lv_sub hl [0, 1, 2, 3] rfl)
          exact k_77 n_77 _ _ _ _ hw _ _ _ hP hD hS (lv_sub hl [0, 1, 2, 4] rfl)
        · have hw := hw.2 c11_3
          rcases Classical.em (x1 = nI 4) with c11_4 | c11_4
          · have hw := hw.1 c11_4
            refine g_sw (nI 4) (tgt := 101) hx hb d_M_run_11 c11_4 (by decide) (by decide) rfl (by decide) ?_
            refine lv_iconst (v := (nI 0)) hx hb d_M_run_101 (by decide) ?_
            refine lv_istore (lv' := [(5, .int (nI 0)), (0, .ref h_o), (1, .int x1), (2, .int x2), (3, .int x3)]) hx hb d_M_run_102 hl (by decide) rfl (fun ls hl => ?_)
            obtain ⟨n_104, hw⟩ := hw
            have k_104 : ∀ (n_104 : Nat) (o_at : Int32) (o_isOut : Int32) (x5 : Int32), gL3 (wpF_M_run_104 post o_length o_spent o_many o_values o_failures o_works vb vr x2) n_104 o_at o_isOut x5 → ∀ (H : Heap) (locs : List Loc) (ls : Array Slot), va_P D gCl [(h_o, .inr (3, [.ref h_w, .ref o_tape, .int o_length, .int o_spent, .ref h_b, .int o_many, .int o_at, .int o_isOut, .ref h_r, .int o_values, .int o_failures, .int o_works])), (h_b, .inl (cI, 256, .inl vb)), (h_r, .inl (cI, 4, .inl vr)), (h_w, .inl (cI, 8, .inl vw))] H → va_D A [(h_o, .inr (3, [.ref h_w, .ref o_tape, .int o_length, .int o_spent, .ref h_b, .int o_many, .int o_at, .int o_isOut, .ref h_r, .int o_values, .int o_failures, .int o_works])), (h_b, .inl (cI, 256, .inl vb)), (h_r, .inl (cI, 4, .inl vr)), (h_w, .inl (cI, 8, .inl vw))] → va_S A s.heap H locs → lv_has ls 6 [(5, .int x5), (0, .ref h_o), (2, .int x2)] → W p l e rm_M_run s m args below meth c H locs 0 0 Q (F0 m 104 ls []) := by
              clear hw hP hD hS hl
              intro n_104
              induction n_104 with
              | zero => exact fun _ _ _ h => h.elim
              | succ n_104 ih_104 =>
                intro o_at o_isOut x5 hw H locs ls hP hD hS hl
                have hw : wpF_M_run_104 post o_length o_spent o_many o_values o_failures o_works vb vr x2 (gL3 (wpF_M_run_104 post o_length o_spent o_many o_values o_failures o_works vb vr x2) n_104) o_at o_isOut x5 := hw
                rw [wpF_M_run_104] at hw
                refine lv_iload hx hb d_M_run_104 (lv_at hl 0 rfl) ?_
                refine lv_iload_n hx hb d_M_run_106 rfl (lv_at hl 2 rfl) ?_
                refine lv_icmp_ge (tgt := 130) hx hb d_M_run_107 (by decide) (fun c107 => ?_) (fun c107 => ?_)
                · have hw := hw.1 c107
                  refine lv_iload hx hb d_M_run_130 (lv_at hl 0 rfl) ?_
                  exact hret _ _ _ (o_at, o_isOut, vr) _ _ hw rfl hP hD hS d_M_run_132
                · have hw := hw.2 c107
                  refine lv_aload_n hx hb d_M_run_110 rfl (lv_at hl 1 rfl) ?_
                  refine gGet fx hK hP 0 rfl inM rfl (k := 7) (by decide) w_234 rfl d_M_run_111 ?_
                  refine lv_if_ne (tgt := 130) hx hb d_M_run_114 (by decide) (fun c114 => ?_) (fun c114 => ?_)
                  · have hw := hw.1 c114
                    refine lv_iload hx hb d_M_run_130 (lv_at hl 0 rfl) ?_
                    exact hret _ _ _ (o_at, o_isOut, vr) _ _ hw rfl hP hD hS d_M_run_132
                  · have hw := hw.2 c114
                    refine lv_aload_n hx hb d_M_run_117 rfl (lv_at hl 1 rfl) ?_
                    refine g_cVi (wr := [(h_r, .inl (cI, 4, .inl vr)), (h_w, .inl (cI, 8, .inl vw))]) fx (c_M_bit l D cI h_o h_b h_w o_tape h_r o_length o_spent o_many o_at o_isOut o_values o_failures o_works vb _ hw) mf_M_bit w_301 ⟨rfl, rfl⟩ ⟨Nat.le_of_ble_eq_true rfl, Nat.le_of_ble_eq_true rfl⟩ hN hK hA hP hD hS [0, 1] [2, 3] rfl rfl rfl rfl (by decide) 0 rfl rfl rfl rfl hl.1 (Nat.le_of_ble_eq_true rfl) d_M_run_118 ⟨Nat.zero_le _, Nat.zero_le _⟩ (fun r_13 u H locs hw hP hD hS => ?_)
                    obtain ⟨oat_14, oisOut_15⟩ := u
                    try dsimp only at hw
                    have hP : va_P D gCl [(h_r, .inl (cI, 4, .inl vr)), (h_w, .inl (cI, 8, .inl vw)), (h_o, .inr (3, [.ref h_w, .ref o_tape, .int o_length, .int o_spent, .ref h_b, .int o_many, .int oat_14, .int oisOut_15, .ref h_r, .int o_values, .int o_failures, .int o_works])), (h_b, .inl (cI, 256, .inl vb))] H := hP
                    have hD : va_D A [(h_r, .inl (cI, 4, .inl vr)), (h_w, .inl (cI, 8, .inl vw)), (h_o, .inr (3, [.ref h_w, .ref o_tape, .int o_length, .int o_spent, .ref h_b, .int o_many, .int oat_14, .int oisOut_15, .ref h_r, .int o_values, .int o_failures, .int o_works])), (h_b, .inl (cI, 256, .inl vb))] := hD
                    refine lv_if_ne (tgt := 130) hx hb d_M_run_121 (by decide) (fun c121 => ?_) (fun c121 => ?_)
                    · have hw := hw.1 c121
                      refine lv_iload hx hb d_M_run_130 (lv_at hl 0 rfl) ?_
                      exact hret _ _ _ (oat_14, oisOut_15, vr) _ _ hw rfl (gSubP hP [2, 3, 0, 1] rfl) (hD.sub [2, 3, 0, 1] rfl rfl) hS d_M_run_132
                    · have hw := hw.2 c121
                      refine lv_iinc (v := (x5 + (nI 1))) (lv' := [(5, .int (x5 + (nI 1))), (0, .ref h_o), (2, .int x2)]) hx hb d_M_run_124 hl (k := 0) rfl rfl (by decide) rfl (fun ls hl => ?_)
                      refine lv_goto (tgt := 104) hx hb d_M_run_127 (by decide) ?_
                      exact ih_104 _ _ _ hw _ _ _ (gSubP hP [2, 3, 0, 1] rfl) (hD.sub [2, 3, 0, 1] rfl rfl) hS (lv_sub hl [0, 1, 2] rfl)
            exact k_104 n_104 _ _ _ hw _ _ _ hP hD hS (lv_sub hl [0, 1, 3] rfl)
          · have hw := hw.2 c11_4
            rcases Classical.em (x1 = nI 5) with c11_5 | c11_5
            · have hw := hw.1 c11_5
              refine g_sw (nI 5) (tgt := 133) hx hb d_M_run_11 c11_5 (by decide) (by decide) rfl (by decide) ?_
              refine lv_aload_n hx hb d_M_run_133 rfl (lv_at hl 0 rfl) ?_
              refine lv_iload_n hx hb d_M_run_134 rfl (lv_at hl 2 rfl) ?_
              refine g_cVi (wr := [(h_w, .inl (cI, 8, .inl vw))]) fx (c_M_order l D cI h_o h_b h_r h_w o_tape o_length o_spent o_many (nI 0) (nI 0) o_values o_failures o_works vb vr x2 _ hw) mf_M_order w_313 ⟨rfl, rfl⟩ ⟨Nat.le_of_ble_eq_true rfl, Nat.le_of_ble_eq_true rfl⟩ hN hK hA hP hD hS [0, 1, 2] [3] rfl rfl rfl rfl (by decide) 0 rfl rfl rfl rfl hl.1 (Nat.le_of_ble_eq_true rfl) d_M_run_135 ⟨Nat.zero_le _, Nat.zero_le _⟩ (fun r_16 u H locs hw hP hD hS => ?_)
              obtain ⟨oat_17, oisOut_18, vr_19⟩ := u
              try dsimp only at hw
              have hP : va_P D gCl [(h_w, .inl (cI, 8, .inl vw)), (h_o, .inr (3, [.ref h_w, .ref o_tape, .int o_length, .int o_spent, .ref h_b, .int o_many, .int oat_17, .int oisOut_18, .ref h_r, .int o_values, .int o_failures, .int o_works])), (h_b, .inl (cI, 256, .inl vb)), (h_r, .inl (cI, 4, .inl vr_19))] H := hP
              have hD : va_D A [(h_w, .inl (cI, 8, .inl vw)), (h_o, .inr (3, [.ref h_w, .ref o_tape, .int o_length, .int o_spent, .ref h_b, .int o_many, .int oat_17, .int oisOut_18, .ref h_r, .int o_values, .int o_failures, .int o_works])), (h_b, .inl (cI, 256, .inl vb)), (h_r, .inl (cI, 4, .inl vr_19))] := hD
              exact hret _ _ _ (oat_17, oisOut_18, vr_19) _ _ hw rfl (gSubP hP [1, 2, 3, 0] rfl) (hD.sub [1, 2, 3, 0] rfl rfl) hS d_M_run_138
            · have hw := hw.2 c11_5
              rcases Classical.em (x1 = nI 6) with c11_6 | c11_6
              · have hw := hw.1 c11_6
                refine g_sw (nI 6) (tgt := 139) hx hb d_M_run_11 c11_6 (by decide) (by decide) rfl (by decide) ?_
                refine lv_aload_n hx hb d_M_run_139 rfl (lv_at hl 0 rfl) ?_
                refine lv_iload_n hx hb d_M_run_140 rfl (lv_at hl 2 rfl) ?_
                refine lv_iload_n hx hb d_M_run_141 rfl (lv_at hl 3 rfl) ?_
                refine g_cVi (wr := [(h_r, .inl (cI, 4, .inl vr)), (h_w, .inl (cI, 8, .inl vw))]) fx (c_M_choice l D cI h_o h_b h_w o_tape h_r o_length o_spent o_many (nI 0) (nI 0) o_values o_failures o_works vb x2 x3 _ hw) mf_M_choice w_317 ⟨rfl, rfl⟩ ⟨Nat.le_of_ble_eq_true rfl, Nat.le_of_ble_eq_true rfl⟩ hN hK hA hP hD hS [0, 1] [2, 3] rfl rfl rfl rfl (by decide) 0 rfl rfl rfl rfl hl.1 (Nat.le_of_ble_eq_true rfl) d_M_run_142 ⟨Nat.zero_le _, Nat.zero_le _⟩ (fun r_20 u H locs hw hP hD hS => ?_)
                obtain ⟨oat_21, oisOut_22⟩ := u
                try dsimp only at hw
                have hP : va_P D gCl [(h_r, .inl (cI, 4, .inl vr)), (h_w, .inl (cI, 8, .inl vw)), (h_o, .inr (3, [.ref h_w, .ref o_tape, .int o_length, .int o_spent, .ref h_b, .int o_many, .int oat_21, .int oisOut_22, .ref h_r, .int o_values, .int o_failures, .int o_works])), (h_b, .inl (cI, 256, .inl vb))] H := hP
                have hD : va_D A [(h_r, .inl (cI, 4, .inl vr)), (h_w, .inl (cI, 8, .inl vw)), (h_o, .inr (3, [.ref h_w, .ref o_tape, .int o_length, .int o_spent, .ref h_b, .int o_many, .int oat_21, .int oisOut_22, .ref h_r, .int o_values, .int o_failures, .int o_works])), (h_b, .inl (cI, 256, .inl vb))] := hD
                exact hret _ _ _ (oat_21, oisOut_22, vr) _ _ hw rfl (gSubP hP [2, 3, 0, 1] rfl) (hD.sub [2, 3, 0, 1] rfl rfl) hS d_M_run_145
              · have hw := hw.2 c11_6
                refine lv_tableOut (tgt := 146) hx hb d_M_run_11 (by have h := g_out (x := x1) (n := 7) (by decide) (fun j hj => by rcases (show j = 0 ∨ j = 1 ∨ j = 2 ∨ j = 3 ∨ j = 4 ∨ j = 5 ∨ j = 6 by omega) with rfl | rfl | rfl | rfl | rfl | rfl | rfl <;> assumption); omega) (by decide) ?_
                refine lv_aload_n hx hb d_M_run_146 rfl (lv_at hl 0 rfl) ?_
                refine g_cVi (wr := [(h_r, .inl (cI, 4, .inl vr))]) fx (c_M_share l D cI h_o h_b h_w o_tape h_r o_length o_spent o_many (nI 0) (nI 0) o_values o_failures o_works vb vw _ hw) mf_M_share w_321 ⟨rfl, rfl⟩ ⟨Nat.le_of_ble_eq_true rfl, Nat.le_of_ble_eq_true rfl⟩ hN hK hA hP hD hS [0, 1, 3] [2] rfl rfl rfl rfl (by decide) 0 rfl rfl rfl rfl hl.1 (Nat.le_of_ble_eq_true rfl) d_M_run_147 ⟨Nat.zero_le _, Nat.zero_le _⟩ (fun r_23 u H locs hw hP hD hS => ?_)
                obtain ⟨oat_24, oisOut_25⟩ := u
                try dsimp only at hw
                have hP : va_P D gCl [(h_r, .inl (cI, 4, .inl vr)), (h_o, .inr (3, [.ref h_w, .ref o_tape, .int o_length, .int o_spent, .ref h_b, .int o_many, .int oat_24, .int oisOut_25, .ref h_r, .int o_values, .int o_failures, .int o_works])), (h_b, .inl (cI, 256, .inl vb)), (h_w, .inl (cI, 8, .inl vw))] H := hP
                have hD : va_D A [(h_r, .inl (cI, 4, .inl vr)), (h_o, .inr (3, [.ref h_w, .ref o_tape, .int o_length, .int o_spent, .ref h_b, .int o_many, .int oat_24, .int oisOut_25, .ref h_r, .int o_values, .int o_failures, .int o_works])), (h_b, .inl (cI, 256, .inl vb)), (h_w, .inl (cI, 8, .inl vw))] := hD
                exact hret _ _ _ (oat_24, oisOut_25, vr) _ _ hw rfl (gSubP hP [1, 2, 0, 3] rfl) (hD.sub [1, 2, 0, 3] rfl rfl) hS d_M_run_150
def wpF_M_draw_76 (post : Int32 → Int32 → Int32 → Int32 → Int32 → Int32 → (Nat → Int32) → (Nat → Int32) → (Nat → Int32) → Prop) (o_length : Int32) (o_many : Int32) (o_at : Int32) (o_isOut : Int32) (vb : Nat → Int32) (vr : Nat → Int32) (x4 : Int32) (K_76 : (Nat → Int32) → Int32 → Prop) (vq : Nat → Int32) (x5 : Int32) : Prop :=
  ((o_length ≤ x5 → post x4 (o_length - o_at) o_at o_many o_at o_isOut vb vr vq) ∧ (¬ o_length ≤ x5 → (vp_in x5 256 ∧ (vp_in (x5 - o_at) 256 ∧ K_76 (upd vq ((x5 - o_at)).toNatClampNeg (vq (x5).toNatClampNeg)) (x5 + (nI 1))))))
def wpF_M_draw_15 (post : Int32 → Int32 → Int32 → Int32 → Int32 → Int32 → (Nat → Int32) → (Nat → Int32) → (Nat → Int32) → Prop) (o_length : Int32) (o_spent : Int32) (o_at : Int32) (o_isOut : Int32) (o_values : Int32) (o_failures : Int32) (o_works : Int32) (vr : Nat → Int32) (vw : Nat → Int32) (vq : Nat → Int32) (x1 : Int32) (x2 : Int32) (x3 : Int32) (K_15 : (Nat → Int32) → Int32 → Prop) (vb : Nat → Int32) (x4 : Int32) : Prop :=
  ((o_length ≤ x4 → wp_M_run (fun r_2 oat_3 oisOut_4 vr_5 => ((oisOut_4 = 0 → (∃ n, gL2 (wpF_M_draw_76 post o_length o_length oat_3 oisOut_4 vb vr_5 r_2) n vq oat_3)) ∧ (¬ oisOut_4 = 0 → post (-1) o_length o_spent o_length oat_3 oisOut_4 vb vr_5 vq))) o_length o_spent o_length o_at o_isOut o_values o_failures o_works vb vr vw x1 x2 x3) ∧ (¬ o_length ≤ x4 → (vp_in x4 256 ∧ (vp_in x4 256 ∧ K_15 (upd vb (x4).toNatClampNeg (vq (x4).toNatClampNeg)) (x4 + (nI 1))))))
def wp_M_draw (post : Int32 → Int32 → Int32 → Int32 → Int32 → Int32 → (Nat → Int32) → (Nat → Int32) → (Nat → Int32) → Prop) (o_length : Int32) (o_spent : Int32) (o_many : Int32) (o_at : Int32) (o_isOut : Int32) (o_values : Int32) (o_failures : Int32) (o_works : Int32) (vb : Nat → Int32) (vr : Nat → Int32) (vw : Nat → Int32) (vq : Nat → Int32) (x1 : Int32) (x2 : Int32) (x3 : Int32) : Prop :=
  wp_M_isOne (fun r_1 => ((¬ r_1 = 0 → (∃ n, gL2 (wpF_M_draw_15 post o_length o_spent o_at o_isOut o_values o_failures o_works vr vw vq x1 x2 x3) n vb (nI 0))) ∧ (r_1 = 0 → post (-1) o_length o_spent o_many o_at o_isOut vb vr vq))) o_length o_spent o_many o_at o_isOut o_values o_failures o_works vw x1 x2 x3
abbrev rm_M_draw : Room := { frames := 4, cells := 0, slots := 0, locals := 95 }
theorem mf_M_draw : gFV y_M_draw b_M_draw 6 (some .int) 3 := ⟨w_291, w_4, ⟨by decide, by decide, by decide +kernel⟩, w_289, w_290⟩
set_option maxHeartbeats 4000000 in
set_option maxRecDepth 100000 in
theorem c_M_draw (l : Launch) (D : va_G) (cI : ClassId) (h_o : Nat) (h_b : Nat) (h_r : Nat) (h_w : Nat) (h_q : Nat) (o_length : Int32) (o_spent : Int32) (o_many : Int32) (o_at : Int32) (o_isOut : Int32) (o_values : Int32) (o_failures : Int32) (o_works : Int32) (vb : Nat → Int32) (vr : Nat → Int32) (vw : Nat → Int32) (vq : Nat → Int32) (x1 : Int32) (x2 : Int32) (x3 : Int32) (post : Int32 → Int32 → Int32 → Int32 → Int32 → Int32 → (Nat → Int32) → (Nat → Int32) → (Nat → Int32) → Prop) (hw : wp_M_draw post o_length o_spent o_many o_at o_isOut o_values o_failures o_works vb vr vw vq x1 x2 x3) :
    gMi l D [(cI, .int)] y_M_draw b_M_draw 6 .int rm_M_draw [.ref h_o, .int x1, .int x2, .int x3] [(h_o, .inr (3, [.ref h_w, .ref h_q, .int o_length, .int o_spent, .ref h_b, .int o_many, .int o_at, .int o_isOut, .ref h_r, .int o_values, .int o_failures, .int o_works])), (h_b, .inl (cI, 256, .inl vb)), (h_r, .inl (cI, 4, .inl vr)), (h_w, .inl (cI, 8, .inl vw)), (h_q, .inl (cI, 256, .inl vq))] (S := Int32 × Int32 × Int32 × Int32 × Int32 × (Nat → Int32) × (Nat → Int32) × (Nat → Int32)) (fun u => [(h_o, .inr (3, [.ref h_w, .ref h_q, .int u.1, .int u.2.1, .ref h_b, .int u.2.2.1, .int u.2.2.2.1, .int u.2.2.2.2.1, .ref h_r, .int o_values, .int o_failures, .int o_works])), (h_b, .inl (cI, 256, .inl u.2.2.2.2.2.1)), (h_r, .inl (cI, 4, .inl u.2.2.2.2.2.2.1)), (h_w, .inl (cI, 8, .inl vw)), (h_q, .inl (cI, 256, .inl u.2.2.2.2.2.2.2))]) (fun r u => post r u.1 u.2.1 u.2.2.1 u.2.2.2.1 u.2.2.2.2.1 u.2.2.2.2.2.1 u.2.2.2.2.2.2.1 u.2.2.2.2.2.2.2) := by
  rw [wp_M_draw] at hw
  refine gMi.of (by decide) (Nat.le_of_ble_eq_true rfl) (fun p e s m args below meth c A Q ls hx hb hml hown hts hN hK hA hP hD hret hl => ?_)
  have fx : CallFix p m c b_M_draw 6 s args gG "TapeCounterModel" := ⟨hx, hb, hml, hown, hts⟩
  have hl : lv_has ls 6 [(0, .ref h_o), (1, .int x1), (2, .int x2), (3, .int x3)] := hl
  have hS : va_S A s.heap s.heap [] := va_S.rf
  refine lv_aload_n hx hb d_M_draw_0 rfl (lv_at hl 0 rfl) ?_
  refine lv_iload_n hx hb d_M_draw_1 rfl (lv_at hl 1 rfl) ?_
  refine lv_iload_n hx hb d_M_draw_2 rfl (lv_at hl 2 rfl) ?_
  refine lv_iload_n hx hb d_M_draw_3 rfl (lv_at hl 3 rfl) ?_
  refine g_cVi (wr := [(h_b, .inl (cI, 256, .inl vb)), (h_r, .inl (cI, 4, .inl vr)), (h_q, .inl (cI, 256, .inl vq))]) fx (c_M_isOne l D cI h_o h_w h_q h_b h_r o_length o_spent o_many o_at o_isOut o_values o_failures o_works vw x1 x2 x3 _ hw) mf_M_isOne w_292 ⟨rfl, rfl⟩ ⟨Nat.le_of_ble_eq_true rfl, Nat.le_of_ble_eq_true rfl⟩ hN hK hA hP hD hS [0, 3] [1, 2, 4] rfl rfl rfl rfl (by decide) 0 rfl rfl rfl rfl hl.1 (Nat.le_of_ble_eq_true rfl) d_M_draw_4 ⟨Nat.zero_le _, Nat.zero_le _⟩ (fun r_1 u H locs hw hP hD hS => ?_)
  try dsimp only at hw
  have hP : va_P D gCl [(h_b, .inl (cI, 256, .inl vb)), (h_r, .inl (cI, 4, .inl vr)), (h_q, .inl (cI, 256, .inl vq)), (h_o, .inr (3, [.ref h_w, .ref h_q, .int o_length, .int o_spent, .ref h_b, .int o_many, .int o_at, .int o_isOut, .ref h_r, .int o_values, .int o_failures, .int o_works])), (h_w, .inl (cI, 8, .inl vw))] H := hP
  have hD : va_D A [(h_b, .inl (cI, 256, .inl vb)), (h_r, .inl (cI, 4, .inl vr)), (h_q, .inl (cI, 256, .inl vq)), (h_o, .inr (3, [.ref h_w, .ref h_q, .int o_length, .int o_spent, .ref h_b, .int o_many, .int o_at, .int o_isOut, .ref h_r, .int o_values, .int o_failures, .int o_works])), (h_w, .inl (cI, 8, .inl vw))] := hD
  refine lv_if_ne (tgt := 12) hx hb d_M_draw_7 (by decide) (fun c7 => ?_) (fun c7 => ?_)
  · have hw := hw.1 c7
    refine lv_iconst (v := (nI 0)) hx hb d_M_draw_12 (by decide) ?_
    refine lv_istore (lv' := [(4, .int (nI 0)), (0, .ref h_o), (1, .int x1), (2, .int x2), (3, .int x3)]) hx hb d_M_draw_13 hl (by decide) rfl (fun ls hl => ?_)
    obtain ⟨n_15, hw⟩ := hw
    have k_15 : ∀ (n_15 : Nat) (vb : Nat → Int32) (x4 : Int32), gL2 (wpF_M_draw_15 post o_length o_spent o_at o_isOut o_values o_failures o_works vr vw vq x1 x2 x3) n_15 vb x4 → ∀ (H : Heap) (locs : List Loc) (ls : Array Slot), va_P D gCl [(h_b, .inl (cI, 256, .inl vb)), (h_r, .inl (cI, 4, .inl vr)), (h_q, .inl (cI, 256, .inl vq)), (h_o, .inr (3, [.ref h_w, .ref h_q, .int o_length, .int o_spent, .ref h_b, .int o_many, .int o_at, .int o_isOut, .ref h_r, .int o_values, .int o_failures, .int o_works])), (h_w, .inl (cI, 8, .inl vw))] H → va_D A [(h_b, .inl (cI, 256, .inl vb)), (h_r, .inl (cI, 4, .inl vr)), (h_q, .inl (cI, 256, .inl vq)), (h_o, .inr (3, [.ref h_w, .ref h_q, .int o_length, .int o_spent, .ref h_b, .int o_many, .int o_at, .int o_isOut, .ref h_r, .int o_values, .int o_failures, .int o_works])), (h_w, .inl (cI, 8, .inl vw))] → va_S A s.heap H locs → lv_has ls 6 [(4, .int x4), (0, .ref h_o), (1, .int x1), (2, .int x2), (3, .int x3)] → W p l e rm_M_draw s m args below meth c H locs 0 0 Q (F0 m 15 ls []) := by
      clear hw hP hD hS hl
      intro n_15
      induction n_15 with
      | zero => exact fun _ _ h => h.elim
      | succ n_15 ih_15 =>
        intro vb x4 hw H locs ls hP hD hS hl
        have hw : wpF_M_draw_15 post o_length o_spent o_at o_isOut o_values o_failures o_works vr vw vq x1 x2 x3 (gL2 (wpF_M_draw_15 post o_length o_spent o_at o_isOut o_values o_failures o_works vr vw vq x1 x2 x3) n_15) vb x4 := hw
        rw [wpF_M_draw_15] at hw
        refine lv_iload hx hb d_M_draw_15 (lv_at hl 0 rfl) ?_
        refine lv_aload_n hx hb d_M_draw_17 rfl (lv_at hl 1 rfl) ?_
        refine gGet fx hK hP 3 rfl inM rfl (k := 2) (by decide) w_229 rfl d_M_draw_18 ?_
        refine lv_icmp_ge (tgt := 44) hx hb d_M_draw_21 (by decide) (fun c21 => ?_) (fun c21 => ?_)
        · have hw := hw.1 c21
          refine lv_aload_n hx hb d_M_draw_44 rfl (lv_at hl 1 rfl) ?_
          refine lv_aload_n hx hb d_M_draw_45 rfl (lv_at hl 1 rfl) ?_
          refine gGet fx hK hP 3 rfl inM rfl (k := 2) (by decide) w_229 rfl d_M_draw_46 ?_
          refine gPut fx hK hP hD hS 3 rfl inM tyM nmM rfl (k := 5) (by decide) w_232 rfl rfl rfl (Nat.le_of_ble_eq_true rfl) d_M_draw_49 (fun H locs hP hD hS => ?_)
          have hP : va_P D gCl [(h_b, .inl (cI, 256, .inl vb)), (h_r, .inl (cI, 4, .inl vr)), (h_q, .inl (cI, 256, .inl vq)), (h_o, .inr (3, [.ref h_w, .ref h_q, .int o_length, .int o_spent, .ref h_b, .int o_length, .int o_at, .int o_isOut, .ref h_r, .int o_values, .int o_failures, .int o_works])), (h_w, .inl (cI, 8, .inl vw))] H := hP
          have hD : va_D A [(h_b, .inl (cI, 256, .inl vb)), (h_r, .inl (cI, 4, .inl vr)), (h_q, .inl (cI, 256, .inl vq)), (h_o, .inr (3, [.ref h_w, .ref h_q, .int o_length, .int o_spent, .ref h_b, .int o_length, .int o_at, .int o_isOut, .ref h_r, .int o_values, .int o_failures, .int o_works])), (h_w, .inl (cI, 8, .inl vw))] := hD
          refine lv_aload_n hx hb d_M_draw_52 rfl (lv_at hl 1 rfl) ?_
          refine lv_iload_n hx hb d_M_draw_53 rfl (lv_at hl 2 rfl) ?_
          refine lv_iload_n hx hb d_M_draw_54 rfl (lv_at hl 3 rfl) ?_
          refine lv_iload_n hx hb d_M_draw_55 rfl (lv_at hl 4 rfl) ?_
          refine g_cVi (wr := [(h_q, .inl (cI, 256, .inl vq))]) fx (c_M_run l D cI h_o h_b h_r h_w h_q o_length o_spent o_length o_at o_isOut o_values o_failures o_works vb vr vw x1 x2 x3 _ hw) mf_M_run w_293 ⟨rfl, rfl⟩ ⟨Nat.le_of_ble_eq_true rfl, Nat.le_of_ble_eq_true rfl⟩ hN hK hA hP hD hS [3, 0, 1, 4] [2] rfl rfl rfl rfl (by decide) 0 rfl rfl rfl rfl hl.1 (Nat.le_of_ble_eq_true rfl) d_M_draw_56 ⟨Nat.zero_le _, Nat.zero_le _⟩ (fun r_2 u H locs hw hP hD hS => ?_)
          obtain ⟨oat_3, oisOut_4, vr_5⟩ := u
          try dsimp only at hw
          have hP : va_P D gCl [(h_q, .inl (cI, 256, .inl vq)), (h_o, .inr (3, [.ref h_w, .ref h_q, .int o_length, .int o_spent, .ref h_b, .int o_length, .int oat_3, .int oisOut_4, .ref h_r, .int o_values, .int o_failures, .int o_works])), (h_b, .inl (cI, 256, .inl vb)), (h_r, .inl (cI, 4, .inl vr_5)), (h_w, .inl (cI, 8, .inl vw))] H := hP
          have hD : va_D A [(h_q, .inl (cI, 256, .inl vq)), (h_o, .inr (3, [.ref h_w, .ref h_q, .int o_length, .int o_spent, .ref h_b, .int o_length, .int oat_3, .int oisOut_4, .ref h_r, .int o_values, .int o_failures, .int o_works])), (h_b, .inl (cI, 256, .inl vb)), (h_r, .inl (cI, 4, .inl vr_5)), (h_w, .inl (cI, 8, .inl vw))] := hD
          refine lv_istore (lv' := [(4, .int r_2), (0, .ref h_o), (1, .int x1), (2, .int x2), (3, .int x3)]) hx hb d_M_draw_59 hl (by decide) rfl (fun ls hl => ?_)
          refine lv_aload_n hx hb d_M_draw_61 rfl (lv_at hl 1 rfl) ?_
          refine gGet fx hK hP 1 rfl inM rfl (k := 7) (by decide) w_234 rfl d_M_draw_62 ?_
          refine lv_if_eq (tgt := 70) hx hb d_M_draw_65 (by decide) (fun c65 => ?_) (fun c65 => ?_)
          · have hw := hw.1 c65
            refine lv_aload_n hx hb d_M_draw_70 rfl (lv_at hl 1 rfl) ?_
            refine gGet fx hK hP 1 rfl inM rfl (k := 6) (by decide) w_233 rfl d_M_draw_71 ?_
            refine lv_istore (lv' := [(5, .int oat_3), (4, .int r_2), (0, .ref h_o), (1, .int x1), (2, .int x2), (3, .int x3)]) hx hb d_M_draw_74 hl (by decide) rfl (fun ls hl => ?_)
            obtain ⟨n_76, hw⟩ := hw
            have k_76 : ∀ (o_many : Int32) (o_at : Int32) (o_isOut : Int32) (vr : Nat → Int32) (x4 : Int32) (n_76 : Nat) (vq : Nat → Int32) (x5 : Int32), gL2 (wpF_M_draw_76 post o_length o_many o_at o_isOut vb vr x4) n_76 vq x5 → ∀ (H : Heap) (locs : List Loc) (ls : Array Slot), va_P D gCl [(h_q, .inl (cI, 256, .inl vq)), (h_o, .inr (3, [.ref h_w, .ref h_q, .int o_length, .int o_spent, .ref h_b, .int o_many, .int o_at, .int o_isOut, .ref h_r, .int o_values, .int o_failures, .int o_works])), (h_b, .inl (cI, 256, .inl vb)), (h_r, .inl (cI, 4, .inl vr)), (h_w, .inl (cI, 8, .inl vw))] H → va_D A [(h_q, .inl (cI, 256, .inl vq)), (h_o, .inr (3, [.ref h_w, .ref h_q, .int o_length, .int o_spent, .ref h_b, .int o_many, .int o_at, .int o_isOut, .ref h_r, .int o_values, .int o_failures, .int o_works])), (h_b, .inl (cI, 256, .inl vb)), (h_r, .inl (cI, 4, .inl vr)), (h_w, .inl (cI, 8, .inl vw))] → va_S A s.heap H locs → lv_has ls 6 [(5, .int x5), (4, .int x4), (0, .ref h_o)] → W p l e rm_M_draw s m args below meth c H locs 0 0 Q (F0 m 76 ls []) := by
              clear hw hP hD hS hl
              intro o_many o_at o_isOut vr x4 n_76
              induction n_76 with
              | zero => exact fun _ _ h => h.elim
              | succ n_76 ih_76 =>
                intro vq x5 hw H locs ls hP hD hS hl
                have hw : wpF_M_draw_76 post o_length o_many o_at o_isOut vb vr x4 (gL2 (wpF_M_draw_76 post o_length o_many o_at o_isOut vb vr x4) n_76) vq x5 := hw
                rw [wpF_M_draw_76] at hw
                refine lv_iload hx hb d_M_draw_76 (lv_at hl 0 rfl) ?_
                refine lv_aload_n hx hb d_M_draw_78 rfl (lv_at hl 2 rfl) ?_
                refine gGet fx hK hP 1 rfl inM rfl (k := 2) (by decide) w_229 rfl d_M_draw_79 ?_
                refine lv_icmp_ge (tgt := 110) hx hb d_M_draw_82 (by decide) (fun c82 => ?_) (fun c82 => ?_)
                · have hw := hw.1 c82
                  refine lv_aload_n hx hb d_M_draw_110 rfl (lv_at hl 2 rfl) ?_
                  refine lv_dup hx hb d_M_draw_111 rfl ?_
                  refine gGet fx hK hP 1 rfl inM rfl (k := 2) (by decide) w_229 rfl d_M_draw_112 ?_
                  refine lv_aload_n hx hb d_M_draw_115 rfl (lv_at hl 2 rfl) ?_
                  refine gGet fx hK hP 1 rfl inM rfl (k := 6) (by decide) w_233 rfl d_M_draw_116 ?_
                  refine lv_isub hx hb d_M_draw_119 ?_
                  refine gPut fx hK hP hD hS 1 rfl inM tyM nmM rfl (k := 2) (by decide) w_229 rfl rfl rfl (Nat.le_of_ble_eq_true rfl) d_M_draw_120 (fun H locs hP hD hS => ?_)
                  have hP : va_P D gCl [(h_q, .inl (cI, 256, .inl vq)), (h_o, .inr (3, [.ref h_w, .ref h_q, .int (o_length - o_at), .int o_spent, .ref h_b, .int o_many, .int o_at, .int o_isOut, .ref h_r, .int o_values, .int o_failures, .int o_works])), (h_b, .inl (cI, 256, .inl vb)), (h_r, .inl (cI, 4, .inl vr)), (h_w, .inl (cI, 8, .inl vw))] H := hP
                  have hD : va_D A [(h_q, .inl (cI, 256, .inl vq)), (h_o, .inr (3, [.ref h_w, .ref h_q, .int (o_length - o_at), .int o_spent, .ref h_b, .int o_many, .int o_at, .int o_isOut, .ref h_r, .int o_values, .int o_failures, .int o_works])), (h_b, .inl (cI, 256, .inl vb)), (h_r, .inl (cI, 4, .inl vr)), (h_w, .inl (cI, 8, .inl vw))] := hD
                  refine lv_aload_n hx hb d_M_draw_123 rfl (lv_at hl 2 rfl) ?_
                  refine lv_aload_n hx hb d_M_draw_124 rfl (lv_at hl 2 rfl) ?_
                  refine gGet fx hK hP 1 rfl inM rfl (k := 6) (by decide) w_233 rfl d_M_draw_125 ?_
                  refine gPut fx hK hP hD hS 1 rfl inM tyM nmM rfl (k := 3) (by decide) w_230 rfl rfl rfl (Nat.le_of_ble_eq_true rfl) d_M_draw_128 (fun H locs hP hD hS => ?_)
                  have hP : va_P D gCl [(h_q, .inl (cI, 256, .inl vq)), (h_o, .inr (3, [.ref h_w, .ref h_q, .int (o_length - o_at), .int o_at, .ref h_b, .int o_many, .int o_at, .int o_isOut, .ref h_r, .int o_values, .int o_failures, .int o_works])), (h_b, .inl (cI, 256, .inl vb)), (h_r, .inl (cI, 4, .inl vr)), (h_w, .inl (cI, 8, .inl vw))] H := hP
                  have hD : va_D A [(h_q, .inl (cI, 256, .inl vq)), (h_o, .inr (3, [.ref h_w, .ref h_q, .int (o_length - o_at), .int o_at, .ref h_b, .int o_many, .int o_at, .int o_isOut, .ref h_r, .int o_values, .int o_failures, .int o_works])), (h_b, .inl (cI, 256, .inl vb)), (h_r, .inl (cI, 4, .inl vr)), (h_w, .inl (cI, 8, .inl vw))] := hD
                  refine lv_iload hx hb d_M_draw_131 (lv_at hl 1 rfl) ?_
                  exact hret _ _ _ ((o_length - o_at), o_at, o_many, o_at, o_isOut, vb, vr, vq) _ _ hw rfl (gSubP hP [1, 2, 3, 4, 0] rfl) (hD.sub [1, 2, 3, 4, 0] rfl rfl) hS d_M_draw_133
                · have hw := hw.2 c82
                  refine lv_aload_n hx hb d_M_draw_85 rfl (lv_at hl 2 rfl) ?_
                  refine gGet fx hK hP 1 rfl inM rfl (k := 1) (by decide) w_228 rfl d_M_draw_86 ?_
                  refine lv_iload hx hb d_M_draw_89 (lv_at hl 0 rfl) ?_
                  refine lv_aload_n hx hb d_M_draw_91 rfl (lv_at hl 2 rfl) ?_
                  refine gGet fx hK hP 1 rfl inM rfl (k := 6) (by decide) w_233 rfl d_M_draw_92 ?_
                  refine lv_isub hx hb d_M_draw_95 ?_
                  refine lv_aload_n hx hb d_M_draw_96 rfl (lv_at hl 2 rfl) ?_
                  refine gGet fx hK hP 1 rfl inM rfl (k := 1) (by decide) w_228 rfl d_M_draw_97 ?_
                  refine lv_iload hx hb d_M_draw_100 (lv_at hl 0 rfl) ?_
                  refine va_iald hx hb hK hP 0 0 rfl rfl hw.1 d_M_draw_102 ?_
                  have hw := hw.2
                  refine va_iast hx hb hK hP hD hS 0 0 rfl rfl hw.1 d_M_draw_103 (fun H locs hP hD hS => ?_)
                  have hw := hw.2
                  have hP : va_P D gCl [(h_q, .inl (cI, 256, .inl (upd vq ((x5 - o_at)).toNatClampNeg (vq (x5).toNatClampNeg)))), (h_o, .inr (3, [.ref h_w, .ref h_q, .int o_length, .int o_spent, .ref h_b, .int o_many, .int o_at, .int o_isOut, .ref h_r, .int o_values, .int o_failures, .int o_works])), (h_b, .inl (cI, 256, .inl vb)), (h_r, .inl (cI, 4, .inl vr)), (h_w, .inl (cI, 8, .inl vw))] H := hP
                  have hD : va_D A [(h_q, .inl (cI, 256, .inl (upd vq ((x5 - o_at)).toNatClampNeg (vq (x5).toNatClampNeg)))), (h_o, .inr (3, [.ref h_w, .ref h_q, .int o_length, .int o_spent, .ref h_b, .int o_many, .int o_at, .int o_isOut, .ref h_r, .int o_values, .int o_failures, .int o_works])), (h_b, .inl (cI, 256, .inl vb)), (h_r, .inl (cI, 4, .inl vr)), (h_w, .inl (cI, 8, .inl vw))] := hD
                  refine lv_iinc (v := (x5 + (nI 1))) (lv' := [(5, .int (x5 + (nI 1))), (4, .int x4), (0, .ref h_o)]) hx hb d_M_draw_104 hl (k := 0) rfl rfl (by decide) rfl (fun ls hl => ?_)
                  refine lv_goto (tgt := 76) hx hb d_M_draw_107 (by decide) ?_
                  exact ih_76 _ _ hw _ _ _ hP hD hS (lv_sub hl [0, 1, 2] rfl)
            exact k_76 o_length oat_3 oisOut_4 vr_5 r_2 n_76 _ _ hw _ _ _ hP hD hS (lv_sub hl [0, 1, 2] rfl)
          · have hw := hw.2 c65
            refine lv_iconst (v := (-1)) hx hb d_M_draw_68 (by decide) ?_
            exact hret _ _ _ (o_length, o_spent, o_length, oat_3, oisOut_4, vb, vr_5, vq) _ _ hw rfl (gSubP hP [1, 2, 3, 4, 0] rfl) (hD.sub [1, 2, 3, 4, 0] rfl rfl) hS d_M_draw_69
        · have hw := hw.2 c21
          refine lv_aload_n hx hb d_M_draw_24 rfl (lv_at hl 1 rfl) ?_
          refine gGet fx hK hP 3 rfl inM rfl (k := 4) (by decide) w_231 rfl d_M_draw_25 ?_
          refine lv_iload hx hb d_M_draw_28 (lv_at hl 0 rfl) ?_
          refine lv_aload_n hx hb d_M_draw_30 rfl (lv_at hl 1 rfl) ?_
          refine gGet fx hK hP 3 rfl inM rfl (k := 1) (by decide) w_228 rfl d_M_draw_31 ?_
          refine lv_iload hx hb d_M_draw_34 (lv_at hl 0 rfl) ?_
          refine va_iald hx hb hK hP 2 0 rfl rfl hw.1 d_M_draw_36 ?_
          have hw := hw.2
          refine va_iast hx hb hK hP hD hS 0 0 rfl rfl hw.1 d_M_draw_37 (fun H locs hP hD hS => ?_)
          have hw := hw.2
          have hP : va_P D gCl [(h_b, .inl (cI, 256, .inl (upd vb (x4).toNatClampNeg (vq (x4).toNatClampNeg)))), (h_r, .inl (cI, 4, .inl vr)), (h_q, .inl (cI, 256, .inl vq)), (h_o, .inr (3, [.ref h_w, .ref h_q, .int o_length, .int o_spent, .ref h_b, .int o_many, .int o_at, .int o_isOut, .ref h_r, .int o_values, .int o_failures, .int o_works])), (h_w, .inl (cI, 8, .inl vw))] H := hP
          have hD : va_D A [(h_b, .inl (cI, 256, .inl (upd vb (x4).toNatClampNeg (vq (x4).toNatClampNeg)))), (h_r, .inl (cI, 4, .inl vr)), (h_q, .inl (cI, 256, .inl vq)), (h_o, .inr (3, [.ref h_w, .ref h_q, .int o_length, .int o_spent, .ref h_b, .int o_many, .int o_at, .int o_isOut, .ref h_r, .int o_values, .int o_failures, .int o_works])), (h_w, .inl (cI, 8, .inl vw))] := hD
          refine lv_iinc (v := (x4 + (nI 1))) (lv' := [(4, .int (x4 + (nI 1))), (0, .ref h_o), (1, .int x1), (2, .int x2), (3, .int x3)]) hx hb d_M_draw_38 hl (k := 0) rfl rfl (by decide) rfl (fun ls hl => ?_)
          refine lv_goto (tgt := 15) hx hb d_M_draw_41 (by decide) ?_
          exact ih_15 _ _ hw _ _ _ hP hD hS (lv_sub hl [0, 1, 2, 3, 4] rfl)
    exact k_15 n_15 _ _ hw _ _ _ hP hD hS (lv_sub hl [0, 1, 2, 3, 4] rfl)
  · have hw := hw.2 c7
    refine lv_iconst (v := (-1)) hx hb d_M_draw_10 (by decide) ?_
    exact hret _ _ _ (o_length, o_spent, o_many, o_at, o_isOut, vb, vr, vq) _ _ hw rfl (gSubP hP [3, 0, 1, 4, 2] rfl) (hD.sub [3, 0, 1, 4, 2] rfl rfl) hS d_M_draw_11
def wpF_M_tryAll_36 (K_24 : Int32 → Int32 → Int32 → Int32 → Int32 → (Nat → Int32) → (Nat → Int32) → Int32 → Prop) (o_length : Int32) (o_spent : Int32) (o_many : Int32) (o_at : Int32) (o_isOut : Int32) (o_values : Int32) (o_failures : Int32) (o_works : Int32) (vr : Nat → Int32) (vw : Nat → Int32) (x1 : Int32) (x2 : Int32) (x3 : Int32) (x4 : Int32) (x5 : Int32) (x6 : Int32) (K_36 : (Nat → Int32) → Int32 → Prop) (vb : Nat → Int32) (x7 : Int32) : Prop :=
  ((x4 ≤ x7 → wp_M_run (fun r_1 oat_2 oisOut_3 vr_4 => ((oisOut_3 = 0 → ((¬ oisOut_3 = 0 → K_24 oat_2 oisOut_3 o_values o_failures (o_works + oat_2) vb vr_4 (x6 + (nI 1))) ∧ (oisOut_3 = 0 → ((¬ r_1 = x5 → K_24 oat_2 oisOut_3 o_values o_failures (o_works + oat_2) vb vr_4 (x6 + (nI 1))) ∧ (r_1 = x5 → K_24 oat_2 oisOut_3 (o_values + (nI 1)) o_failures (o_works + oat_2) vb vr_4 (x6 + (nI 1))))))) ∧ (¬ oisOut_3 = 0 → ((¬ oisOut_3 = 0 → K_24 oat_2 oisOut_3 o_values (o_failures + (nI 1)) (o_works + oat_2) vb vr_4 (x6 + (nI 1))) ∧ (oisOut_3 = 0 → ((¬ r_1 = x5 → K_24 oat_2 oisOut_3 o_values (o_failures + (nI 1)) (o_works + oat_2) vb vr_4 (x6 + (nI 1))) ∧ (r_1 = x5 → K_24 oat_2 oisOut_3 (o_values + (nI 1)) (o_failures + (nI 1)) (o_works + oat_2) vb vr_4 (x6 + (nI 1))))))))) o_length o_spent o_many o_at o_isOut o_values o_failures o_works vb vr vw x1 x2 x3) ∧ (¬ x4 ≤ x7 → (vp_in x7 256 ∧ K_36 (upd vb (x7).toNatClampNeg ((x6 >>> (x7 &&& 31)) &&& (nI 1))) (x7 + (nI 1)))))
def wpF_M_tryAll_24 (post : Int32 → Int32 → Int32 → Int32 → Int32 → Int32 → (Nat → Int32) → (Nat → Int32) → Prop) (o_length : Int32) (o_spent : Int32) (o_many : Int32) (vw : Nat → Int32) (x1 : Int32) (x2 : Int32) (x3 : Int32) (x4 : Int32) (x5 : Int32) (K_24 : Int32 → Int32 → Int32 → Int32 → Int32 → (Nat → Int32) → (Nat → Int32) → Int32 → Prop) (o_at : Int32) (o_isOut : Int32) (o_values : Int32) (o_failures : Int32) (o_works : Int32) (vb : Nat → Int32) (vr : Nat → Int32) (x6 : Int32) : Prop :=
  ((((nI 1) <<< (x4 &&& 31)) ≤ x6 → post o_many o_at o_isOut o_values o_failures o_works vb vr) ∧ (¬ ((nI 1) <<< (x4 &&& 31)) ≤ x6 → (∃ n, gL2 (wpF_M_tryAll_36 K_24 o_length o_spent o_many o_at o_isOut o_values o_failures o_works vr vw x1 x2 x3 x4 x5 x6) n vb (nI 0))))
def wp_M_tryAll (post : Int32 → Int32 → Int32 → Int32 → Int32 → Int32 → (Nat → Int32) → (Nat → Int32) → Prop) (o_length : Int32) (o_spent : Int32) (o_many : Int32) (o_at : Int32) (o_isOut : Int32) (o_values : Int32) (o_failures : Int32) (o_works : Int32) (vb : Nat → Int32) (vr : Nat → Int32) (vw : Nat → Int32) (x1 : Int32) (x2 : Int32) (x3 : Int32) (x4 : Int32) (x5 : Int32) : Prop :=
  (∃ n, gL8 (wpF_M_tryAll_24 post o_length o_spent x4 vw x1 x2 x3 x4 x5) n o_at o_isOut (nI 0) (nI 0) (nI 0) vb vr (nI 0))
abbrev rm_M_tryAll : Room := { frames := 4, cells := 0, slots := 0, locals := 95 }
theorem mf_M_tryAll : gFV y_M_tryAll b_M_tryAll 8 none 5 := ⟨w_340, w_4, ⟨by decide, by decide, by decide +kernel⟩, w_339, ws_2_1⟩
set_option maxHeartbeats 4000000 in
set_option maxRecDepth 100000 in
theorem c_M_tryAll (l : Launch) (D : va_G) (cI : ClassId) (h_o : Nat) (h_b : Nat) (h_r : Nat) (h_w : Nat) (o_tape : Nat) (o_length : Int32) (o_spent : Int32) (o_many : Int32) (o_at : Int32) (o_isOut : Int32) (o_values : Int32) (o_failures : Int32) (o_works : Int32) (vb : Nat → Int32) (vr : Nat → Int32) (vw : Nat → Int32) (x1 : Int32) (x2 : Int32) (x3 : Int32) (x4 : Int32) (x5 : Int32) (post : Int32 → Int32 → Int32 → Int32 → Int32 → Int32 → (Nat → Int32) → (Nat → Int32) → Prop) (hw : wp_M_tryAll post o_length o_spent o_many o_at o_isOut o_values o_failures o_works vb vr vw x1 x2 x3 x4 x5) :
    gMv l D [(cI, .int)] y_M_tryAll b_M_tryAll 8 rm_M_tryAll [.ref h_o, .int x1, .int x2, .int x3, .int x4, .int x5] [(h_o, .inr (3, [.ref h_w, .ref o_tape, .int o_length, .int o_spent, .ref h_b, .int o_many, .int o_at, .int o_isOut, .ref h_r, .int o_values, .int o_failures, .int o_works])), (h_b, .inl (cI, 256, .inl vb)), (h_r, .inl (cI, 4, .inl vr)), (h_w, .inl (cI, 8, .inl vw))] (S := Int32 × Int32 × Int32 × Int32 × Int32 × Int32 × (Nat → Int32) × (Nat → Int32)) (fun u => [(h_o, .inr (3, [.ref h_w, .ref o_tape, .int o_length, .int o_spent, .ref h_b, .int u.1, .int u.2.1, .int u.2.2.1, .ref h_r, .int u.2.2.2.1, .int u.2.2.2.2.1, .int u.2.2.2.2.2.1])), (h_b, .inl (cI, 256, .inl u.2.2.2.2.2.2.1)), (h_r, .inl (cI, 4, .inl u.2.2.2.2.2.2.2)), (h_w, .inl (cI, 8, .inl vw))]) (fun u => post u.1 u.2.1 u.2.2.1 u.2.2.2.1 u.2.2.2.2.1 u.2.2.2.2.2.1 u.2.2.2.2.2.2.1 u.2.2.2.2.2.2.2) := by
  rw [wp_M_tryAll] at hw
  refine gMv.of (by decide) (Nat.le_of_ble_eq_true rfl) (fun p e s m args below meth c A Q ls hx hb hml hown hts hN hK hA hP hD hret hl => ?_)
  have fx : CallFix p m c b_M_tryAll 8 s args gG "TapeCounterModel" := ⟨hx, hb, hml, hown, hts⟩
  have hl : lv_has ls 8 [(0, .ref h_o), (1, .int x1), (2, .int x2), (3, .int x3), (4, .int x4), (5, .int x5)] := hl
  have hS : va_S A s.heap s.heap [] := va_S.rf
  refine lv_aload_n hx hb d_M_tryAll_0 rfl (lv_at hl 0 rfl) ?_
  refine lv_iconst (v := (nI 0)) hx hb d_M_tryAll_1 (by decide) ?_
  refine gPut fx hK hP hD hS 0 rfl inM tyM nmM rfl (k := 9) (by decide) w_236 rfl rfl rfl (Nat.le_of_ble_eq_true rfl) d_M_tryAll_2 (fun H locs hP hD hS => ?_)
  have hP : va_P D gCl [(h_o, .inr (3, [.ref h_w, .ref o_tape, .int o_length, .int o_spent, .ref h_b, .int o_many, .int o_at, .int o_isOut, .ref h_r, .int (nI 0), .int o_failures, .int o_works])), (h_b, .inl (cI, 256, .inl vb)), (h_r, .inl (cI, 4, .inl vr)), (h_w, .inl (cI, 8, .inl vw))] H := hP
  have hD : va_D A [(h_o, .inr (3, [.ref h_w, .ref o_tape, .int o_length, .int o_spent, .ref h_b, .int o_many, .int o_at, .int o_isOut, .ref h_r, .int (nI 0), .int o_failures, .int o_works])), (h_b, .inl (cI, 256, .inl vb)), (h_r, .inl (cI, 4, .inl vr)), (h_w, .inl (cI, 8, .inl vw))] := hD
  refine lv_aload_n hx hb d_M_tryAll_5 rfl (lv_at hl 0 rfl) ?_
  refine lv_iconst (v := (nI 0)) hx hb d_M_tryAll_6 (by decide) ?_
  refine gPut fx hK hP hD hS 0 rfl inM tyM nmM rfl (k := 10) (by decide) w_237 rfl rfl rfl (Nat.le_of_ble_eq_true rfl) d_M_tryAll_7 (fun H locs hP hD hS => ?_)
  have hP : va_P D gCl [(h_o, .inr (3, [.ref h_w, .ref o_tape, .int o_length, .int o_spent, .ref h_b, .int o_many, .int o_at, .int o_isOut, .ref h_r, .int (nI 0), .int (nI 0), .int o_works])), (h_b, .inl (cI, 256, .inl vb)), (h_r, .inl (cI, 4, .inl vr)), (h_w, .inl (cI, 8, .inl vw))] H := hP
  have hD : va_D A [(h_o, .inr (3, [.ref h_w, .ref o_tape, .int o_length, .int o_spent, .ref h_b, .int o_many, .int o_at, .int o_isOut, .ref h_r, .int (nI 0), .int (nI 0), .int o_works])), (h_b, .inl (cI, 256, .inl vb)), (h_r, .inl (cI, 4, .inl vr)), (h_w, .inl (cI, 8, .inl vw))] := hD
  refine lv_aload_n hx hb d_M_tryAll_10 rfl (lv_at hl 0 rfl) ?_
  refine lv_iconst (v := (nI 0)) hx hb d_M_tryAll_11 (by decide) ?_
  refine gPut fx hK hP hD hS 0 rfl inM tyM nmM rfl (k := 11) (by decide) w_238 rfl rfl rfl (Nat.le_of_ble_eq_true rfl) d_M_tryAll_12 (fun H locs hP hD hS => ?_)
  have hP : va_P D gCl [(h_o, .inr (3, [.ref h_w, .ref o_tape, .int o_length, .int o_spent, .ref h_b, .int o_many, .int o_at, .int o_isOut, .ref h_r, .int (nI 0), .int (nI 0), .int (nI 0)])), (h_b, .inl (cI, 256, .inl vb)), (h_r, .inl (cI, 4, .inl vr)), (h_w, .inl (cI, 8, .inl vw))] H := hP
  have hD : va_D A [(h_o, .inr (3, [.ref h_w, .ref o_tape, .int o_length, .int o_spent, .ref h_b, .int o_many, .int o_at, .int o_isOut, .ref h_r, .int (nI 0), .int (nI 0), .int (nI 0)])), (h_b, .inl (cI, 256, .inl vb)), (h_r, .inl (cI, 4, .inl vr)), (h_w, .inl (cI, 8, .inl vw))] := hD
  refine lv_aload_n hx hb d_M_tryAll_15 rfl (lv_at hl 0 rfl) ?_
  refine lv_iload hx hb d_M_tryAll_16 (lv_at hl 4 rfl) ?_
  refine gPut fx hK hP hD hS 0 rfl inM tyM nmM rfl (k := 5) (by decide) w_232 rfl rfl rfl (Nat.le_of_ble_eq_true rfl) d_M_tryAll_18 (fun H locs hP hD hS => ?_)
  have hP : va_P D gCl [(h_o, .inr (3, [.ref h_w, .ref o_tape, .int o_length, .int o_spent, .ref h_b, .int x4, .int o_at, .int o_isOut, .ref h_r, .int (nI 0), .int (nI 0), .int (nI 0)])), (h_b, .inl (cI, 256, .inl vb)), (h_r, .inl (cI, 4, .inl vr)), (h_w, .inl (cI, 8, .inl vw))] H := hP
  have hD : va_D A [(h_o, .inr (3, [.ref h_w, .ref o_tape, .int o_length, .int o_spent, .ref h_b, .int x4, .int o_at, .int o_isOut, .ref h_r, .int (nI 0), .int (nI 0), .int (nI 0)])), (h_b, .inl (cI, 256, .inl vb)), (h_r, .inl (cI, 4, .inl vr)), (h_w, .inl (cI, 8, .inl vw))] := hD
  refine lv_iconst (v := (nI 0)) hx hb d_M_tryAll_21 (by decide) ?_
  refine lv_istore (lv' := [(6, .int (nI 0)), (0, .ref h_o), (1, .int x1), (2, .int x2), (3, .int x3), (4, .int x4), (5, .int x5)]) hx hb d_M_tryAll_22 hl (by decide) rfl (fun ls hl => ?_)
  obtain ⟨n_24, hw⟩ := hw
  have k_24 : ∀ (o_many : Int32) (n_24 : Nat) (o_at : Int32) (o_isOut : Int32) (o_values : Int32) (o_failures : Int32) (o_works : Int32) (vb : Nat → Int32) (vr : Nat → Int32) (x6 : Int32), gL8 (wpF_M_tryAll_24 post o_length o_spent o_many vw x1 x2 x3 x4 x5) n_24 o_at o_isOut o_values o_failures o_works vb vr x6 → ∀ (H : Heap) (locs : List Loc) (ls : Array Slot), va_P D gCl [(h_o, .inr (3, [.ref h_w, .ref o_tape, .int o_length, .int o_spent, .ref h_b, .int o_many, .int o_at, .int o_isOut, .ref h_r, .int o_values, .int o_failures, .int o_works])), (h_b, .inl (cI, 256, .inl vb)), (h_r, .inl (cI, 4, .inl vr)), (h_w, .inl (cI, 8, .inl vw))] H → va_D A [(h_o, .inr (3, [.ref h_w, .ref o_tape, .int o_length, .int o_spent, .ref h_b, .int o_many, .int o_at, .int o_isOut, .ref h_r, .int o_values, .int o_failures, .int o_works])), (h_b, .inl (cI, 256, .inl vb)), (h_r, .inl (cI, 4, .inl vr)), (h_w, .inl (cI, 8, .inl vw))] → va_S A s.heap H locs → lv_has ls 8 [(6, .int x6), (0, .ref h_o), (1, .int x1), (2, .int x2), (3, .int x3), (4, .int x4), (5, .int x5)] → W p l e rm_M_tryAll s m args below meth c H locs 0 0 Q (F0 m 24 ls []) := by
    clear hw hP hD hS hl
    intro o_many n_24
    induction n_24 with
    | zero => exact fun _ _ _ _ _ _ _ _ h => h.elim
    | succ n_24 ih_24 =>
      intro o_at o_isOut o_values o_failures o_works vb vr x6 hw H locs ls hP hD hS hl
      have hw : wpF_M_tryAll_24 post o_length o_spent o_many vw x1 x2 x3 x4 x5 (gL8 (wpF_M_tryAll_24 post o_length o_spent o_many vw x1 x2 x3 x4 x5) n_24) o_at o_isOut o_values o_failures o_works vb vr x6 := hw
      rw [wpF_M_tryAll_24] at hw
      refine lv_iload hx hb d_M_tryAll_24 (lv_at hl 0 rfl) ?_
      refine lv_iconst (v := (nI 1)) hx hb d_M_tryAll_26 (by decide) ?_
      refine lv_iload hx hb d_M_tryAll_27 (lv_at hl 5 rfl) ?_
      refine lv_ishl hx hb d_M_tryAll_29 ?_
      refine lv_icmp_ge (tgt := 146) hx hb d_M_tryAll_30 (by decide) (fun c30 => ?_) (fun c30 => ?_)
      · have hw := hw.1 c30
        exact hret _ _ (o_many, o_at, o_isOut, o_values, o_failures, o_works, vb, vr) _ _ hw hP hD hS d_M_tryAll_146
      · have hw := hw.2 c30
        refine lv_iconst (v := (nI 0)) hx hb d_M_tryAll_33 (by decide) ?_
        refine lv_istore (lv' := [(7, .int (nI 0)), (6, .int x6), (0, .ref h_o), (1, .int x1), (2, .int x2), (3, .int x3), (4, .int x4), (5, .int x5)]) hx hb d_M_tryAll_34 hl (by decide) rfl (fun ls hl => ?_)
        obtain ⟨n_36, hw⟩ := hw
        have k_36 : ∀ (n_36 : Nat) (vb : Nat → Int32) (x7 : Int32), gL2 (wpF_M_tryAll_36 (gL8 (wpF_M_tryAll_24 post o_length o_spent o_many vw x1 x2 x3 x4 x5) n_24) o_length o_spent o_many o_at o_isOut o_values o_failures o_works vr vw x1 x2 x3 x4 x5 x6) n_36 vb x7 → ∀ (H : Heap) (locs : List Loc) (ls : Array Slot), va_P D gCl [(h_o, .inr (3, [.ref h_w, .ref o_tape, .int o_length, .int o_spent, .ref h_b, .int o_many, .int o_at, .int o_isOut, .ref h_r, .int o_values, .int o_failures, .int o_works])), (h_b, .inl (cI, 256, .inl vb)), (h_r, .inl (cI, 4, .inl vr)), (h_w, .inl (cI, 8, .inl vw))] H → va_D A [(h_o, .inr (3, [.ref h_w, .ref o_tape, .int o_length, .int o_spent, .ref h_b, .int o_many, .int o_at, .int o_isOut, .ref h_r, .int o_values, .int o_failures, .int o_works])), (h_b, .inl (cI, 256, .inl vb)), (h_r, .inl (cI, 4, .inl vr)), (h_w, .inl (cI, 8, .inl vw))] → va_S A s.heap H locs → lv_has ls 8 [(7, .int x7), (6, .int x6), (0, .ref h_o), (1, .int x1), (2, .int x2), (3, .int x3), (4, .int x4), (5, .int x5)] → W p l e rm_M_tryAll s m args below meth c H locs 0 0 Q (F0 m 36 ls []) := by
          clear hw hP hD hS hl
          intro n_36
          induction n_36 with
          | zero => exact fun _ _ h => h.elim
          | succ n_36 ih_36 =>
            intro vb x7 hw H locs ls hP hD hS hl
            have hw : wpF_M_tryAll_36 (gL8 (wpF_M_tryAll_24 post o_length o_spent o_many vw x1 x2 x3 x4 x5) n_24) o_length o_spent o_many o_at o_isOut o_values o_failures o_works vr vw x1 x2 x3 x4 x5 x6 (gL2 (wpF_M_tryAll_36 (gL8 (wpF_M_tryAll_24 post o_length o_spent o_many vw x1 x2 x3 x4 x5) n_24) o_length o_spent o_many o_at o_isOut o_values o_failures o_works vr vw x1 x2 x3 x4 x5 x6) n_36) vb x7 := hw
            rw [wpF_M_tryAll_36] at hw
            refine lv_iload hx hb d_M_tryAll_36 (lv_at hl 0 rfl) ?_
            refine lv_iload hx hb d_M_tryAll_38 (lv_at hl 6 rfl) ?_
            refine lv_icmp_ge (tgt := 63) hx hb d_M_tryAll_40 (by decide) (fun c40 => ?_) (fun c40 => ?_)
            · have hw := hw.1 c40
              refine lv_aload_n hx hb d_M_tryAll_63 rfl (lv_at hl 2 rfl) ?_
              refine lv_iload_n hx hb d_M_tryAll_64 rfl (lv_at hl 3 rfl) ?_
              refine lv_iload_n hx hb d_M_tryAll_65 rfl (lv_at hl 4 rfl) ?_
              refine lv_iload_n hx hb d_M_tryAll_66 rfl (lv_at hl 5 rfl) ?_
              refine g_cVi (wr := []) fx (c_M_run l D cI h_o h_b h_r h_w o_tape o_length o_spent o_many o_at o_isOut o_values o_failures o_works vb vr vw x1 x2 x3 _ hw) mf_M_run w_293 ⟨rfl, rfl⟩ ⟨Nat.le_of_ble_eq_true rfl, Nat.le_of_ble_eq_true rfl⟩ hN hK hA hP hD hS [0, 1, 2, 3] [] rfl rfl rfl rfl (by decide) 0 rfl rfl rfl rfl hl.1 (Nat.le_of_ble_eq_true rfl) d_M_tryAll_67 ⟨Nat.zero_le _, Nat.zero_le _⟩ (fun r_1 u H locs hw hP hD hS => ?_)
              obtain ⟨oat_2, oisOut_3, vr_4⟩ := u
              try dsimp only at hw
              have hP : va_P D gCl [(h_o, .inr (3, [.ref h_w, .ref o_tape, .int o_length, .int o_spent, .ref h_b, .int o_many, .int oat_2, .int oisOut_3, .ref h_r, .int o_values, .int o_failures, .int o_works])), (h_b, .inl (cI, 256, .inl vb)), (h_r, .inl (cI, 4, .inl vr_4)), (h_w, .inl (cI, 8, .inl vw))] H := hP
              have hD : va_D A [(h_o, .inr (3, [.ref h_w, .ref o_tape, .int o_length, .int o_spent, .ref h_b, .int o_many, .int oat_2, .int oisOut_3, .ref h_r, .int o_values, .int o_failures, .int o_works])), (h_b, .inl (cI, 256, .inl vb)), (h_r, .inl (cI, 4, .inl vr_4)), (h_w, .inl (cI, 8, .inl vw))] := hD
              refine lv_istore (lv' := [(7, .int r_1), (6, .int x6), (0, .ref h_o), (1, .int x1), (2, .int x2), (3, .int x3), (4, .int x4), (5, .int x5)]) hx hb d_M_tryAll_70 hl (by decide) rfl (fun ls hl => ?_)
              refine lv_aload_n hx hb d_M_tryAll_72 rfl (lv_at hl 2 rfl) ?_
              refine lv_dup hx hb d_M_tryAll_73 rfl ?_
              refine gGet fx hK hP 0 rfl inM rfl (k := 11) (by decide) w_238 rfl d_M_tryAll_74 ?_
              refine lv_aload_n hx hb d_M_tryAll_77 rfl (lv_at hl 2 rfl) ?_
              refine gGet fx hK hP 0 rfl inM rfl (k := 6) (by decide) w_233 rfl d_M_tryAll_78 ?_
              refine lv_iadd hx hb d_M_tryAll_81 ?_
              refine gPut fx hK hP hD hS 0 rfl inM tyM nmM rfl (k := 11) (by decide) w_238 rfl rfl rfl (Nat.le_of_ble_eq_true rfl) d_M_tryAll_82 (fun H locs hP hD hS => ?_)
              have hP : va_P D gCl [(h_o, .inr (3, [.ref h_w, .ref o_tape, .int o_length, .int o_spent, .ref h_b, .int o_many, .int oat_2, .int oisOut_3, .ref h_r, .int o_values, .int o_failures, .int (o_works + oat_2)])), (h_b, .inl (cI, 256, .inl vb)), (h_r, .inl (cI, 4, .inl vr_4)), (h_w, .inl (cI, 8, .inl vw))] H := hP
              have hD : va_D A [(h_o, .inr (3, [.ref h_w, .ref o_tape, .int o_length, .int o_spent, .ref h_b, .int o_many, .int oat_2, .int oisOut_3, .ref h_r, .int o_values, .int o_failures, .int (o_works + oat_2)])), (h_b, .inl (cI, 256, .inl vb)), (h_r, .inl (cI, 4, .inl vr_4)), (h_w, .inl (cI, 8, .inl vw))] := hD
              refine lv_aload_n hx hb d_M_tryAll_85 rfl (lv_at hl 2 rfl) ?_
              refine lv_aload_n hx hb d_M_tryAll_86 rfl (lv_at hl 2 rfl) ?_
              refine gGet fx hK hP 0 rfl inM rfl (k := 7) (by decide) w_234 rfl d_M_tryAll_87 ?_
              refine lv_if_eq (tgt := 102) hx hb d_M_tryAll_90 (by decide) (fun c90 => ?_) (fun c90 => ?_)
              · have hw := hw.1 c90
                refine lv_aload_n hx hb d_M_tryAll_102 rfl (lv_at hl 2 rfl) ?_
                refine gGet fx hK hP 0 rfl inM rfl (k := 10) (by decide) w_237 rfl d_M_tryAll_103 ?_
                refine gPut fx hK hP hD hS 0 rfl inM tyM nmM rfl (k := 10) (by decide) w_237 rfl rfl rfl (Nat.le_of_ble_eq_true rfl) d_M_tryAll_106 (fun H locs hP hD hS => ?_)
                have hP : va_P D gCl [(h_o, .inr (3, [.ref h_w, .ref o_tape, .int o_length, .int o_spent, .ref h_b, .int o_many, .int oat_2, .int oisOut_3, .ref h_r, .int o_values, .int o_failures, .int (o_works + oat_2)])), (h_b, .inl (cI, 256, .inl vb)), (h_r, .inl (cI, 4, .inl vr_4)), (h_w, .inl (cI, 8, .inl vw))] H := hP
                have hD : va_D A [(h_o, .inr (3, [.ref h_w, .ref o_tape, .int o_length, .int o_spent, .ref h_b, .int o_many, .int oat_2, .int oisOut_3, .ref h_r, .int o_values, .int o_failures, .int (o_works + oat_2)])), (h_b, .inl (cI, 256, .inl vb)), (h_r, .inl (cI, 4, .inl vr_4)), (h_w, .inl (cI, 8, .inl vw))] := hD
                refine lv_aload_n hx hb d_M_tryAll_109 rfl (lv_at hl 2 rfl) ?_
                refine lv_aload_n hx hb d_M_tryAll_110 rfl (lv_at hl 2 rfl) ?_
                refine gGet fx hK hP 0 rfl inM rfl (k := 7) (by decide) w_234 rfl d_M_tryAll_111 ?_
                refine lv_if_ne (tgt := 133) hx hb d_M_tryAll_114 (by decide) (fun c114 => ?_) (fun c114 => ?_)
                · have hw := hw.1 c114
                  refine lv_aload_n hx hb d_M_tryAll_133 rfl (lv_at hl 2 rfl) ?_
                  refine gGet fx hK hP 0 rfl inM rfl (k := 9) (by decide) w_236 rfl d_M_tryAll_134 ?_
                  refine gPut fx hK hP hD hS 0 rfl inM tyM nmM rfl (k := 9) (by decide) w_236 rfl rfl rfl (Nat.le_of_ble_eq_true rfl) d_M_tryAll_137 (fun H locs hP hD hS => ?_)
                  have hP : va_P D gCl [(h_o, .inr (3, [.ref h_w, .ref o_tape, .int o_length, .int o_spent, .ref h_b, .int o_many, .int oat_2, .int oisOut_3, .ref h_r, .int o_values, .int o_failures, .int (o_works + oat_2)])), (h_b, .inl (cI, 256, .inl vb)), (h_r, .inl (cI, 4, .inl vr_4)), (h_w, .inl (cI, 8, .inl vw))] H := hP
                  have hD : va_D A [(h_o, .inr (3, [.ref h_w, .ref o_tape, .int o_length, .int o_spent, .ref h_b, .int o_many, .int oat_2, .int oisOut_3, .ref h_r, .int o_values, .int o_failures, .int (o_works + oat_2)])), (h_b, .inl (cI, 256, .inl vb)), (h_r, .inl (cI, 4, .inl vr_4)), (h_w, .inl (cI, 8, .inl vw))] := hD
                  refine lv_iinc (v := (x6 + (nI 1))) (lv' := [(6, .int (x6 + (nI 1))), (7, .int r_1), (0, .ref h_o), (1, .int x1), (2, .int x2), (3, .int x3), (4, .int x4), (5, .int x5)]) hx hb d_M_tryAll_140 hl (k := 1) rfl rfl (by decide) rfl (fun ls hl => ?_)
                  refine lv_goto (tgt := 24) hx hb d_M_tryAll_143 (by decide) ?_
                  exact ih_24 _ _ _ _ _ _ _ _ hw _ _ _ hP hD hS (lv_sub hl [0, 2, 3, 4, 5, 6, 7] rfl)
                · have hw := hw.2 c114
                  refine lv_iload hx hb d_M_tryAll_117 (lv_at hl 0 rfl) ?_
                  refine lv_iload hx hb d_M_tryAll_119 (lv_at hl 7 rfl) ?_
                  refine lv_icmp_ne (tgt := 133) hx hb d_M_tryAll_121 (by decide) (fun c121 => ?_) (fun c121 => ?_)
                  · have hw := hw.1 c121
                    refine lv_aload_n hx hb d_M_tryAll_133 rfl (lv_at hl 2 rfl) ?_
                    refine gGet fx hK hP 0 rfl inM rfl (k := 9) (by decide) w_236 rfl d_M_tryAll_134 ?_
                    refine gPut fx hK hP hD hS 0 rfl inM tyM nmM rfl (k := 9) (by decide) w_236 rfl rfl rfl (Nat.le_of_ble_eq_true rfl) d_M_tryAll_137 (fun H locs hP hD hS => ?_)
                    have hP : va_P D gCl [(h_o, .inr (3, [.ref h_w, .ref o_tape, .int o_length, .int o_spent, .ref h_b, .int o_many, .int oat_2, .int oisOut_3, .ref h_r, .int o_values, .int o_failures, .int (o_works + oat_2)])), (h_b, .inl (cI, 256, .inl vb)), (h_r, .inl (cI, 4, .inl vr_4)), (h_w, .inl (cI, 8, .inl vw))] H := hP
                    have hD : va_D A [(h_o, .inr (3, [.ref h_w, .ref o_tape, .int o_length, .int o_spent, .ref h_b, .int o_many, .int oat_2, .int oisOut_3, .ref h_r, .int o_values, .int o_failures, .int (o_works + oat_2)])), (h_b, .inl (cI, 256, .inl vb)), (h_r, .inl (cI, 4, .inl vr_4)), (h_w, .inl (cI, 8, .inl vw))] := hD
                    refine lv_iinc (v := (x6 + (nI 1))) (lv' := [(6, .int (x6 + (nI 1))), (7, .int r_1), (0, .ref h_o), (1, .int x1), (2, .int x2), (3, .int x3), (4, .int x4), (5, .int x5)]) hx hb d_M_tryAll_140 hl (k := 1) rfl rfl (by decide) rfl (fun ls hl => ?_)
                    refine lv_goto (tgt := 24) hx hb d_M_tryAll_143 (by decide) ?_
                    exact ih_24 _ _ _ _ _ _ _ _ hw _ _ _ hP hD hS (lv_sub hl [0, 2, 3, 4, 5, 6, 7] rfl)
                  · have hw := hw.2 c121
                    refine lv_aload_n hx hb d_M_tryAll_124 rfl (lv_at hl 2 rfl) ?_
                    refine gGet fx hK hP 0 rfl inM rfl (k := 9) (by decide) w_236 rfl d_M_tryAll_125 ?_
                    refine lv_iconst (v := (nI 1)) hx hb d_M_tryAll_128 (by decide) ?_
                    refine lv_iadd hx hb d_M_tryAll_129 ?_
                    refine lv_goto (tgt := 137) hx hb d_M_tryAll_130 (by decide) ?_
                    refine gPut fx hK hP hD hS 0 rfl inM tyM nmM rfl (k := 9) (by decide) w_236 rfl rfl rfl (Nat.le_of_ble_eq_true rfl) d_M_tryAll_137 (fun H locs hP hD hS => ?_)
                    have hP : va_P D gCl [(h_o, .inr (3, [.ref h_w, .ref o_tape, .int o_length, .int o_spent, .ref h_b, .int o_many, .int oat_2, .int oisOut_3, .ref h_r, .int (o_values + (nI 1)), .int o_failures, .int (o_works + oat_2)])), (h_b, .inl (cI, 256, .inl vb)), (h_r, .inl (cI, 4, .inl vr_4)), (h_w, .inl (cI, 8, .inl vw))] H := hP
                    have hD : va_D A [(h_o, .inr (3, [.ref h_w, .ref o_tape, .int o_length, .int o_spent, .ref h_b, .int o_many, .int oat_2, .int oisOut_3, .ref h_r, .int (o_values + (nI 1)), .int o_failures, .int (o_works + oat_2)])), (h_b, .inl (cI, 256, .inl vb)), (h_r, .inl (cI, 4, .inl vr_4)), (h_w, .inl (cI, 8, .inl vw))] := hD
                    refine lv_iinc (v := (x6 + (nI 1))) (lv' := [(6, .int (x6 + (nI 1))), (7, .int r_1), (0, .ref h_o), (1, .int x1), (2, .int x2), (3, .int x3), (4, .int x4), (5, .int x5)]) hx hb d_M_tryAll_140 hl (k := 1) rfl rfl (by decide) rfl (fun ls hl => ?_)
                    refine lv_goto (tgt := 24) hx hb d_M_tryAll_143 (by decide) ?_
                    exact ih_24 _ _ _ _ _ _ _ _ hw _ _ _ hP hD hS (lv_sub hl [0, 2, 3, 4, 5, 6, 7] rfl)
              · have hw := hw.2 c90
                refine lv_aload_n hx hb d_M_tryAll_93 rfl (lv_at hl 2 rfl) ?_
                refine gGet fx hK hP 0 rfl inM rfl (k := 10) (by decide) w_237 rfl d_M_tryAll_94 ?_
                refine lv_iconst (v := (nI 1)) hx hb d_M_tryAll_97 (by decide) ?_
                refine lv_iadd hx hb d_M_tryAll_98 ?_
                refine lv_goto (tgt := 106) hx hb d_M_tryAll_99 (by decide) ?_
                refine gPut fx hK hP hD hS 0 rfl inM tyM nmM rfl (k := 10) (by decide) w_237 rfl rfl rfl (Nat.le_of_ble_eq_true rfl) d_M_tryAll_106 (fun H locs hP hD hS => ?_)
                have hP : va_P D gCl [(h_o, .inr (3, [.ref h_w, .ref o_tape, .int o_length, .int o_spent, .ref h_b, .int o_many, .int oat_2, .int oisOut_3, .ref h_r, .int o_values, .int (o_failures + (nI 1)), .int (o_works + oat_2)])), (h_b, .inl (cI, 256, .inl vb)), (h_r, .inl (cI, 4, .inl vr_4)), (h_w, .inl (cI, 8, .inl vw))] H := hP
                have hD : va_D A [(h_o, .inr (3, [.ref h_w, .ref o_tape, .int o_length, .int o_spent, .ref h_b, .int o_many, .int oat_2, .int oisOut_3, .ref h_r, .int o_values, .int (o_failures + (nI 1)), .int (o_works + oat_2)])), (h_b, .inl (cI, 256, .inl vb)), (h_r, .inl (cI, 4, .inl vr_4)), (h_w, .inl (cI, 8, .inl vw))] := hD
                refine lv_aload_n hx hb d_M_tryAll_109 rfl (lv_at hl 2 rfl) ?_
                refine lv_aload_n hx hb d_M_tryAll_110 rfl (lv_at hl 2 rfl) ?_
                refine gGet fx hK hP 0 rfl inM rfl (k := 7) (by decide) w_234 rfl d_M_tryAll_111 ?_
                refine lv_if_ne (tgt := 133) hx hb d_M_tryAll_114 (by decide) (fun c114 => ?_) (fun c114 => ?_)
                · have hw := hw.1 c114
                  refine lv_aload_n hx hb d_M_tryAll_133 rfl (lv_at hl 2 rfl) ?_
                  refine gGet fx hK hP 0 rfl inM rfl (k := 9) (by decide) w_236 rfl d_M_tryAll_134 ?_
                  refine gPut fx hK hP hD hS 0 rfl inM tyM nmM rfl (k := 9) (by decide) w_236 rfl rfl rfl (Nat.le_of_ble_eq_true rfl) d_M_tryAll_137 (fun H locs hP hD hS => ?_)
                  have hP : va_P D gCl [(h_o, .inr (3, [.ref h_w, .ref o_tape, .int o_length, .int o_spent, .ref h_b, .int o_many, .int oat_2, .int oisOut_3, .ref h_r, .int o_values, .int (o_failures + (nI 1)), .int (o_works + oat_2)])), (h_b, .inl (cI, 256, .inl vb)), (h_r, .inl (cI, 4, .inl vr_4)), (h_w, .inl (cI, 8, .inl vw))] H := hP
                  have hD : va_D A [(h_o, .inr (3, [.ref h_w, .ref o_tape, .int o_length, .int o_spent, .ref h_b, .int o_many, .int oat_2, .int oisOut_3, .ref h_r, .int o_values, .int (o_failures + (nI 1)), .int (o_works + oat_2)])), (h_b, .inl (cI, 256, .inl vb)), (h_r, .inl (cI, 4, .inl vr_4)), (h_w, .inl (cI, 8, .inl vw))] := hD
                  refine lv_iinc (v := (x6 + (nI 1))) (lv' := [(6, .int (x6 + (nI 1))), (7, .int r_1), (0, .ref h_o), (1, .int x1), (2, .int x2), (3, .int x3), (4, .int x4), (5, .int x5)]) hx hb d_M_tryAll_140 hl (k := 1) rfl rfl (by decide) rfl (fun ls hl => ?_)
                  refine lv_goto (tgt := 24) hx hb d_M_tryAll_143 (by decide) ?_
                  exact ih_24 _ _ _ _ _ _ _ _ hw _ _ _ hP hD hS (lv_sub hl [0, 2, 3, 4, 5, 6, 7] rfl)
                · have hw := hw.2 c114
                  refine lv_iload hx hb d_M_tryAll_117 (lv_at hl 0 rfl) ?_
                  refine lv_iload hx hb d_M_tryAll_119 (lv_at hl 7 rfl) ?_
                  refine lv_icmp_ne (tgt := 133) hx hb d_M_tryAll_121 (by decide) (fun c121 => ?_) (fun c121 => ?_)
                  · have hw := hw.1 c121
                    refine lv_aload_n hx hb d_M_tryAll_133 rfl (lv_at hl 2 rfl) ?_
                    refine gGet fx hK hP 0 rfl inM rfl (k := 9) (by decide) w_236 rfl d_M_tryAll_134 ?_
                    refine gPut fx hK hP hD hS 0 rfl inM tyM nmM rfl (k := 9) (by decide) w_236 rfl rfl rfl (Nat.le_of_ble_eq_true rfl) d_M_tryAll_137 (fun H locs hP hD hS => ?_)
                    have hP : va_P D gCl [(h_o, .inr (3, [.ref h_w, .ref o_tape, .int o_length, .int o_spent, .ref h_b, .int o_many, .int oat_2, .int oisOut_3, .ref h_r, .int o_values, .int (o_failures + (nI 1)), .int (o_works + oat_2)])), (h_b, .inl (cI, 256, .inl vb)), (h_r, .inl (cI, 4, .inl vr_4)), (h_w, .inl (cI, 8, .inl vw))] H := hP
                    have hD : va_D A [(h_o, .inr (3, [.ref h_w, .ref o_tape, .int o_length, .int o_spent, .ref h_b, .int o_many, .int oat_2, .int oisOut_3, .ref h_r, .int o_values, .int (o_failures + (nI 1)), .int (o_works + oat_2)])), (h_b, .inl (cI, 256, .inl vb)), (h_r, .inl (cI, 4, .inl vr_4)), (h_w, .inl (cI, 8, .inl vw))] := hD
                    refine lv_iinc (v := (x6 + (nI 1))) (lv' := [(6, .int (x6 + (nI 1))), (7, .int r_1), (0, .ref h_o), (1, .int x1), (2, .int x2), (3, .int x3), (4, .int x4), (5, .int x5)]) hx hb d_M_tryAll_140 hl (k := 1) rfl rfl (by decide) rfl (fun ls hl => ?_)
                    refine lv_goto (tgt := 24) hx hb d_M_tryAll_143 (by decide) ?_
                    exact ih_24 _ _ _ _ _ _ _ _ hw _ _ _ hP hD hS (lv_sub hl [0, 2, 3, 4, 5, 6, 7] rfl)
                  · have hw := hw.2 c121
                    refine lv_aload_n hx hb d_M_tryAll_124 rfl (lv_at hl 2 rfl) ?_
                    refine gGet fx hK hP 0 rfl inM rfl (k := 9) (by decide) w_236 rfl d_M_tryAll_125 ?_
                    refine lv_iconst (v := (nI 1)) hx hb d_M_tryAll_128 (by decide) ?_
                    refine lv_iadd hx hb d_M_tryAll_129 ?_
                    refine lv_goto (tgt := 137) hx hb d_M_tryAll_130 (by decide) ?_
                    refine gPut fx hK hP hD hS 0 rfl inM tyM nmM rfl (k := 9) (by decide) w_236 rfl rfl rfl (Nat.le_of_ble_eq_true rfl) d_M_tryAll_137 (fun H locs hP hD hS => ?_)
                    have hP : va_P D gCl [(h_o, .inr (3, [.ref h_w, .ref o_tape, .int o_length, .int o_spent, .ref h_b, .int o_many, .int oat_2, .int oisOut_3, .ref h_r, .int (o_values + (nI 1)), .int (o_failures + (nI 1)), .int (o_works + oat_2)])), (h_b, .inl (cI, 256, .inl vb)), (h_r, .inl (cI, 4, .inl vr_4)), (h_w, .inl (cI, 8, .inl vw))] H := hP
                    have hD : va_D A [(h_o, .inr (3, [.ref h_w, .ref o_tape, .int o_length, .int o_spent, .ref h_b, .int o_many, .int oat_2, .int oisOut_3, .ref h_r, .int (o_values + (nI 1)), .int (o_failures + (nI 1)), .int (o_works + oat_2)])), (h_b, .inl (cI, 256, .inl vb)), (h_r, .inl (cI, 4, .inl vr_4)), (h_w, .inl (cI, 8, .inl vw))] := hD
                    refine lv_iinc (v := (x6 + (nI 1))) (lv' := [(6, .int (x6 + (nI 1))), (7, .int r_1), (0, .ref h_o), (1, .int x1), (2, .int x2), (3, .int x3), (4, .int x4), (5, .int x5)]) hx hb d_M_tryAll_140 hl (k := 1) rfl rfl (by decide) rfl (fun ls hl => ?_)
                    refine lv_goto (tgt := 24) hx hb d_M_tryAll_143 (by decide) ?_
                    exact ih_24 _ _ _ _ _ _ _ _ hw _ _ _ hP hD hS (lv_sub hl [0, 2, 3, 4, 5, 6, 7] rfl)
            · have hw := hw.2 c40
              refine lv_aload_n hx hb d_M_tryAll_43 rfl (lv_at hl 2 rfl) ?_
              refine gGet fx hK hP 0 rfl inM rfl (k := 4) (by decide) w_231 rfl d_M_tryAll_44 ?_
              refine lv_iload hx hb d_M_tryAll_47 (lv_at hl 0 rfl) ?_
              refine lv_iload hx hb d_M_tryAll_49 (lv_at hl 1 rfl) ?_
              refine lv_iload hx hb d_M_tryAll_51 (lv_at hl 0 rfl) ?_
              refine lv_ishr hx hb d_M_tryAll_53 ?_
              refine lv_iconst (v := (nI 1)) hx hb d_M_tryAll_54 (by decide) ?_
              refine lv_iand hx hb d_M_tryAll_55 ?_
              refine va_iast hx hb hK hP hD hS 1 0 rfl rfl hw.1 d_M_tryAll_56 (fun H locs hP hD hS => ?_)
              have hw := hw.2
              have hP : va_P D gCl [(h_o, .inr (3, [.ref h_w, .ref o_tape, .int o_length, .int o_spent, .ref h_b, .int o_many, .int o_at, .int o_isOut, .ref h_r, .int o_values, .int o_failures, .int o_works])), (h_b, .inl (cI, 256, .inl (upd vb (x7).toNatClampNeg ((x6 >>> (x7 &&& 31)) &&& (nI 1))))), (h_r, .inl (cI, 4, .inl vr)), (h_w, .inl (cI, 8, .inl vw))] H := hP
              have hD : va_D A [(h_o, .inr (3, [.ref h_w, .ref o_tape, .int o_length, .int o_spent, .ref h_b, .int o_many, .int o_at, .int o_isOut, .ref h_r, .int o_values, .int o_failures, .int o_works])), (h_b, .inl (cI, 256, .inl (upd vb (x7).toNatClampNeg ((x6 >>> (x7 &&& 31)) &&& (nI 1))))), (h_r, .inl (cI, 4, .inl vr)), (h_w, .inl (cI, 8, .inl vw))] := hD
              refine lv_iinc (v := (x7 + (nI 1))) (lv' := [(7, .int (x7 + (nI 1))), (6, .int x6), (0, .ref h_o), (1, .int x1), (2, .int x2), (3, .int x3), (4, .int x4), (5, .int x5)]) hx hb d_M_tryAll_57 hl (k := 0) rfl rfl (by decide) rfl (fun ls hl => ?_)
              refine lv_goto (tgt := 36) hx hb d_M_tryAll_60 (by decide) ?_
              exact ih_36 _ _ hw _ _ _ hP hD hS (lv_sub hl [0, 1, 2, 3, 4, 5, 6, 7] rfl)
        exact k_36 n_36 _ _ hw _ _ _ hP hD hS (lv_sub hl [0, 1, 2, 3, 4, 5, 6, 7] rfl)
  exact k_24 x4 n_24 _ _ _ _ _ _ _ _ hw _ _ _ hP hD hS (lv_sub hl [0, 1, 2, 3, 4, 5, 6] rfl)
def wp_M_count (post : Int32 → Int32 → Int32 → Int32 → Int32 → Int32 → Int32 → (Nat → Int32) → (Nat → Int32) → Prop) (o_length : Int32) (o_spent : Int32) (o_many : Int32) (o_at : Int32) (o_isOut : Int32) (o_values : Int32) (o_failures : Int32) (o_works : Int32) (vb : Nat → Int32) (vr : Nat → Int32) (vw : Nat → Int32) (x1 : Int32) (x2 : Int32) (x3 : Int32) (x4 : Int32) (x5 : Int32) : Prop :=
  wp_M_isAll (fun r_1 => ((¬ r_1 = 0 → wp_M_tryAll (fun omany_2 oat_3 oisOut_4 ovalues_5 ofailures_6 oworks_7 vb_8 vr_9 => post ovalues_5 omany_2 oat_3 oisOut_4 ovalues_5 ofailures_6 oworks_7 vb_8 vr_9) o_length o_spent o_many o_at o_isOut o_values o_failures o_works vb vr vw x1 x2 x3 x4 x5) ∧ (r_1 = 0 → post (-1) o_many o_at o_isOut o_values o_failures o_works vb vr))) o_length o_spent o_many o_at o_isOut o_values o_failures o_works vw x1 x2 x3 x4
abbrev rm_M_count : Room := { frames := 5, cells := 0, slots := 0, locals := 122 }
theorem mf_M_count : gFV y_M_count b_M_count 6 (some .int) 5 := ⟨w_332, w_4, ⟨by decide, by decide, by decide +kernel⟩, w_330, w_331⟩
set_option maxHeartbeats 4000000 in
set_option maxRecDepth 100000 in
theorem c_M_count (l : Launch) (D : va_G) (cI : ClassId) (h_o : Nat) (h_b : Nat) (h_r : Nat) (h_w : Nat) (o_tape : Nat) (o_length : Int32) (o_spent : Int32) (o_many : Int32) (o_at : Int32) (o_isOut : Int32) (o_values : Int32) (o_failures : Int32) (o_works : Int32) (vb : Nat → Int32) (vr : Nat → Int32) (vw : Nat → Int32) (x1 : Int32) (x2 : Int32) (x3 : Int32) (x4 : Int32) (x5 : Int32) (post : Int32 → Int32 → Int32 → Int32 → Int32 → Int32 → Int32 → (Nat → Int32) → (Nat → Int32) → Prop) (hw : wp_M_count post o_length o_spent o_many o_at o_isOut o_values o_failures o_works vb vr vw x1 x2 x3 x4 x5) :
    gMi l D [(cI, .int)] y_M_count b_M_count 6 .int rm_M_count [.ref h_o, .int x1, .int x2, .int x3, .int x4, .int x5] [(h_o, .inr (3, [.ref h_w, .ref o_tape, .int o_length, .int o_spent, .ref h_b, .int o_many, .int o_at, .int o_isOut, .ref h_r, .int o_values, .int o_failures, .int o_works])), (h_b, .inl (cI, 256, .inl vb)), (h_r, .inl (cI, 4, .inl vr)), (h_w, .inl (cI, 8, .inl vw))] (S := Int32 × Int32 × Int32 × Int32 × Int32 × Int32 × (Nat → Int32) × (Nat → Int32)) (fun u => [(h_o, .inr (3, [.ref h_w, .ref o_tape, .int o_length, .int o_spent, .ref h_b, .int u.1, .int u.2.1, .int u.2.2.1, .ref h_r, .int u.2.2.2.1, .int u.2.2.2.2.1, .int u.2.2.2.2.2.1])), (h_b, .inl (cI, 256, .inl u.2.2.2.2.2.2.1)), (h_r, .inl (cI, 4, .inl u.2.2.2.2.2.2.2)), (h_w, .inl (cI, 8, .inl vw))]) (fun r u => post r u.1 u.2.1 u.2.2.1 u.2.2.2.1 u.2.2.2.2.1 u.2.2.2.2.2.1 u.2.2.2.2.2.2.1 u.2.2.2.2.2.2.2) := by
  rw [wp_M_count] at hw
  refine gMi.of (by decide) (Nat.le_of_ble_eq_true rfl) (fun p e s m args below meth c A Q ls hx hb hml hown hts hN hK hA hP hD hret hl => ?_)
  have fx : CallFix p m c b_M_count 6 s args gG "TapeCounterModel" := ⟨hx, hb, hml, hown, hts⟩
  have hl : lv_has ls 6 [(0, .ref h_o), (1, .int x1), (2, .int x2), (3, .int x3), (4, .int x4), (5, .int x5)] := hl
  have hS : va_S A s.heap s.heap [] := va_S.rf
  refine lv_aload_n hx hb d_M_count_0 rfl (lv_at hl 0 rfl) ?_
  refine lv_iload_n hx hb d_M_count_1 rfl (lv_at hl 1 rfl) ?_
  refine lv_iload_n hx hb d_M_count_2 rfl (lv_at hl 2 rfl) ?_
  refine lv_iload_n hx hb d_M_count_3 rfl (lv_at hl 3 rfl) ?_
  refine lv_iload hx hb d_M_count_4 (lv_at hl 4 rfl) ?_
  refine g_cVi (wr := [(h_b, .inl (cI, 256, .inl vb)), (h_r, .inl (cI, 4, .inl vr))]) fx (c_M_isAll l D cI h_o h_w o_tape h_b h_r o_length o_spent o_many o_at o_isOut o_values o_failures o_works vw x1 x2 x3 x4 _ hw) mf_M_isAll w_333 ⟨rfl, rfl⟩ ⟨Nat.le_of_ble_eq_true rfl, Nat.le_of_ble_eq_true rfl⟩ hN hK hA hP hD hS [0, 3] [1, 2] rfl rfl rfl rfl (by decide) 0 rfl rfl rfl rfl hl.1 (Nat.le_of_ble_eq_true rfl) d_M_count_6 ⟨Nat.zero_le _, Nat.zero_le _⟩ (fun r_1 u H locs hw hP hD hS => ?_)
  try dsimp only at hw
  have hP : va_P D gCl [(h_b, .inl (cI, 256, .inl vb)), (h_r, .inl (cI, 4, .inl vr)), (h_o, .inr (3, [.ref h_w, .ref o_tape, .int o_length, .int o_spent, .ref h_b, .int o_many, .int o_at, .int o_isOut, .ref h_r, .int o_values, .int o_failures, .int o_works])), (h_w, .inl (cI, 8, .inl vw))] H := hP
  have hD : va_D A [(h_b, .inl (cI, 256, .inl vb)), (h_r, .inl (cI, 4, .inl vr)), (h_o, .inr (3, [.ref h_w, .ref o_tape, .int o_length, .int o_spent, .ref h_b, .int o_many, .int o_at, .int o_isOut, .ref h_r, .int o_values, .int o_failures, .int o_works])), (h_w, .inl (cI, 8, .inl vw))] := hD
  refine lv_if_ne (tgt := 14) hx hb d_M_count_9 (by decide) (fun c9 => ?_) (fun c9 => ?_)
  · have hw := hw.1 c9
    refine lv_aload_n hx hb d_M_count_14 rfl (lv_at hl 0 rfl) ?_
    refine lv_iload_n hx hb d_M_count_15 rfl (lv_at hl 1 rfl) ?_
    refine lv_iload_n hx hb d_M_count_16 rfl (lv_at hl 2 rfl) ?_
    refine lv_iload_n hx hb d_M_count_17 rfl (lv_at hl 3 rfl) ?_
    refine lv_iload hx hb d_M_count_18 (lv_at hl 4 rfl) ?_
    refine lv_iload hx hb d_M_count_20 (lv_at hl 5 rfl) ?_
    refine g_cVv (wr := []) fx (c_M_tryAll l D cI h_o h_b h_r h_w o_tape o_length o_spent o_many o_at o_isOut o_values o_failures o_works vb vr vw x1 x2 x3 x4 x5 _ hw) mf_M_tryAll w_337 ⟨rfl, rfl⟩ ⟨Nat.le_of_ble_eq_true rfl, Nat.le_of_ble_eq_true rfl⟩ hN hK hA hP hD hS [2, 0, 1, 3] [] rfl rfl rfl rfl (by decide) 0 rfl rfl rfl rfl hl.1 (Nat.le_of_ble_eq_true rfl) d_M_count_22 ⟨Nat.zero_le _, Nat.zero_le _⟩ (fun u H locs hw hP hD hS => ?_)
    obtain ⟨omany_2, oat_3, oisOut_4, ovalues_5, ofailures_6, oworks_7, vb_8, vr_9⟩ := u
    try dsimp only at hw
    have hP : va_P D gCl [(h_o, .inr (3, [.ref h_w, .ref o_tape, .int o_length, .int o_spent, .ref h_b, .int omany_2, .int oat_3, .int oisOut_4, .ref h_r, .int ovalues_5, .int ofailures_6, .int oworks_7])), (h_b, .inl (cI, 256, .inl vb_8)), (h_r, .inl (cI, 4, .inl vr_9)), (h_w, .inl (cI, 8, .inl vw))] H := hP
    have hD : va_D A [(h_o, .inr (3, [.ref h_w, .ref o_tape, .int o_length, .int o_spent, .ref h_b, .int omany_2, .int oat_3, .int oisOut_4, .ref h_r, .int ovalues_5, .int ofailures_6, .int oworks_7])), (h_b, .inl (cI, 256, .inl vb_8)), (h_r, .inl (cI, 4, .inl vr_9)), (h_w, .inl (cI, 8, .inl vw))] := hD
    refine lv_aload_n hx hb d_M_count_25 rfl (lv_at hl 0 rfl) ?_
    refine gGet fx hK hP 0 rfl inM rfl (k := 9) (by decide) w_236 rfl d_M_count_26 ?_
    exact hret _ _ _ (omany_2, oat_3, oisOut_4, ovalues_5, ofailures_6, oworks_7, vb_8, vr_9) _ _ hw rfl hP hD hS d_M_count_29
  · have hw := hw.2 c9
    refine lv_iconst (v := (-1)) hx hb d_M_count_12 (by decide) ?_
    exact hret _ _ _ (o_many, o_at, o_isOut, o_values, o_failures, o_works, vb, vr) _ _ hw rfl (gSubP hP [2, 0, 1, 3] rfl) (hD.sub [2, 0, 1, 3] rfl rfl) hS d_M_count_13
def wp_M_fails (post : Int32 → Int32 → Int32 → Int32 → Int32 → Int32 → Int32 → (Nat → Int32) → (Nat → Int32) → Prop) (o_length : Int32) (o_spent : Int32) (o_many : Int32) (o_at : Int32) (o_isOut : Int32) (o_values : Int32) (o_failures : Int32) (o_works : Int32) (vb : Nat → Int32) (vr : Nat → Int32) (vw : Nat → Int32) (x1 : Int32) (x2 : Int32) (x3 : Int32) (x4 : Int32) : Prop :=
  wp_M_isAll (fun r_1 => ((¬ r_1 = 0 → wp_M_tryAll (fun omany_2 oat_3 oisOut_4 ovalues_5 ofailures_6 oworks_7 vb_8 vr_9 => post ofailures_6 omany_2 oat_3 oisOut_4 ovalues_5 ofailures_6 oworks_7 vb_8 vr_9) o_length o_spent o_many o_at o_isOut o_values o_failures o_works vb vr vw x1 x2 x3 x4 (nI 0)) ∧ (r_1 = 0 → post (-1) o_many o_at o_isOut o_values o_failures o_works vb vr))) o_length o_spent o_many o_at o_isOut o_values o_failures o_works vw x1 x2 x3 x4
abbrev rm_M_fails : Room := { frames := 5, cells := 0, slots := 0, locals := 122 }
theorem mf_M_fails : gFV y_M_fails b_M_fails 5 (some .int) 4 := ⟨w_344, w_4, ⟨by decide, by decide, by decide +kernel⟩, w_342, w_343⟩
set_option maxHeartbeats 4000000 in
set_option maxRecDepth 100000 in
theorem c_M_fails (l : Launch) (D : va_G) (cI : ClassId) (h_o : Nat) (h_b : Nat) (h_r : Nat) (h_w : Nat) (o_tape : Nat) (o_length : Int32) (o_spent : Int32) (o_many : Int32) (o_at : Int32) (o_isOut : Int32) (o_values : Int32) (o_failures : Int32) (o_works : Int32) (vb : Nat → Int32) (vr : Nat → Int32) (vw : Nat → Int32) (x1 : Int32) (x2 : Int32) (x3 : Int32) (x4 : Int32) (post : Int32 → Int32 → Int32 → Int32 → Int32 → Int32 → Int32 → (Nat → Int32) → (Nat → Int32) → Prop) (hw : wp_M_fails post o_length o_spent o_many o_at o_isOut o_values o_failures o_works vb vr vw x1 x2 x3 x4) :
    gMi l D [(cI, .int)] y_M_fails b_M_fails 5 .int rm_M_fails [.ref h_o, .int x1, .int x2, .int x3, .int x4] [(h_o, .inr (3, [.ref h_w, .ref o_tape, .int o_length, .int o_spent, .ref h_b, .int o_many, .int o_at, .int o_isOut, .ref h_r, .int o_values, .int o_failures, .int o_works])), (h_b, .inl (cI, 256, .inl vb)), (h_r, .inl (cI, 4, .inl vr)), (h_w, .inl (cI, 8, .inl vw))] (S := Int32 × Int32 × Int32 × Int32 × Int32 × Int32 × (Nat → Int32) × (Nat → Int32)) (fun u => [(h_o, .inr (3, [.ref h_w, .ref o_tape, .int o_length, .int o_spent, .ref h_b, .int u.1, .int u.2.1, .int u.2.2.1, .ref h_r, .int u.2.2.2.1, .int u.2.2.2.2.1, .int u.2.2.2.2.2.1])), (h_b, .inl (cI, 256, .inl u.2.2.2.2.2.2.1)), (h_r, .inl (cI, 4, .inl u.2.2.2.2.2.2.2)), (h_w, .inl (cI, 8, .inl vw))]) (fun r u => post r u.1 u.2.1 u.2.2.1 u.2.2.2.1 u.2.2.2.2.1 u.2.2.2.2.2.1 u.2.2.2.2.2.2.1 u.2.2.2.2.2.2.2) := by
  rw [wp_M_fails] at hw
  refine gMi.of (by decide) (Nat.le_of_ble_eq_true rfl) (fun p e s m args below meth c A Q ls hx hb hml hown hts hN hK hA hP hD hret hl => ?_)
  have fx : CallFix p m c b_M_fails 5 s args gG "TapeCounterModel" := ⟨hx, hb, hml, hown, hts⟩
  have hl : lv_has ls 5 [(0, .ref h_o), (1, .int x1), (2, .int x2), (3, .int x3), (4, .int x4)] := hl
  have hS : va_S A s.heap s.heap [] := va_S.rf
  refine lv_aload_n hx hb d_M_fails_0 rfl (lv_at hl 0 rfl) ?_
  refine lv_iload_n hx hb d_M_fails_1 rfl (lv_at hl 1 rfl) ?_
  refine lv_iload_n hx hb d_M_fails_2 rfl (lv_at hl 2 rfl) ?_
  refine lv_iload_n hx hb d_M_fails_3 rfl (lv_at hl 3 rfl) ?_
  refine lv_iload hx hb d_M_fails_4 (lv_at hl 4 rfl) ?_
  refine g_cVi (wr := [(h_b, .inl (cI, 256, .inl vb)), (h_r, .inl (cI, 4, .inl vr))]) fx (c_M_isAll l D cI h_o h_w o_tape h_b h_r o_length o_spent o_many o_at o_isOut o_values o_failures o_works vw x1 x2 x3 x4 _ hw) mf_M_isAll w_333 ⟨rfl, rfl⟩ ⟨Nat.le_of_ble_eq_true rfl, Nat.le_of_ble_eq_true rfl⟩ hN hK hA hP hD hS [0, 3] [1, 2] rfl rfl rfl rfl (by decide) 0 rfl rfl rfl rfl hl.1 (Nat.le_of_ble_eq_true rfl) d_M_fails_6 ⟨Nat.zero_le _, Nat.zero_le _⟩ (fun r_1 u H locs hw hP hD hS => ?_)
  try dsimp only at hw
  have hP : va_P D gCl [(h_b, .inl (cI, 256, .inl vb)), (h_r, .inl (cI, 4, .inl vr)), (h_o, .inr (3, [.ref h_w, .ref o_tape, .int o_length, .int o_spent, .ref h_b, .int o_many, .int o_at, .int o_isOut, .ref h_r, .int o_values, .int o_failures, .int o_works])), (h_w, .inl (cI, 8, .inl vw))] H := hP
  have hD : va_D A [(h_b, .inl (cI, 256, .inl vb)), (h_r, .inl (cI, 4, .inl vr)), (h_o, .inr (3, [.ref h_w, .ref o_tape, .int o_length, .int o_spent, .ref h_b, .int o_many, .int o_at, .int o_isOut, .ref h_r, .int o_values, .int o_failures, .int o_works])), (h_w, .inl (cI, 8, .inl vw))] := hD
  refine lv_if_ne (tgt := 14) hx hb d_M_fails_9 (by decide) (fun c9 => ?_) (fun c9 => ?_)
  · have hw := hw.1 c9
    refine lv_aload_n hx hb d_M_fails_14 rfl (lv_at hl 0 rfl) ?_
    refine lv_iload_n hx hb d_M_fails_15 rfl (lv_at hl 1 rfl) ?_
    refine lv_iload_n hx hb d_M_fails_16 rfl (lv_at hl 2 rfl) ?_
    refine lv_iload_n hx hb d_M_fails_17 rfl (lv_at hl 3 rfl) ?_
    refine lv_iload hx hb d_M_fails_18 (lv_at hl 4 rfl) ?_
    refine lv_iconst (v := (nI 0)) hx hb d_M_fails_20 (by decide) ?_
    refine g_cVv (wr := []) fx (c_M_tryAll l D cI h_o h_b h_r h_w o_tape o_length o_spent o_many o_at o_isOut o_values o_failures o_works vb vr vw x1 x2 x3 x4 (nI 0) _ hw) mf_M_tryAll w_337 ⟨rfl, rfl⟩ ⟨Nat.le_of_ble_eq_true rfl, Nat.le_of_ble_eq_true rfl⟩ hN hK hA hP hD hS [2, 0, 1, 3] [] rfl rfl rfl rfl (by decide) 0 rfl rfl rfl rfl hl.1 (Nat.le_of_ble_eq_true rfl) d_M_fails_21 ⟨Nat.zero_le _, Nat.zero_le _⟩ (fun u H locs hw hP hD hS => ?_)
    obtain ⟨omany_2, oat_3, oisOut_4, ovalues_5, ofailures_6, oworks_7, vb_8, vr_9⟩ := u
    try dsimp only at hw
    have hP : va_P D gCl [(h_o, .inr (3, [.ref h_w, .ref o_tape, .int o_length, .int o_spent, .ref h_b, .int omany_2, .int oat_3, .int oisOut_4, .ref h_r, .int ovalues_5, .int ofailures_6, .int oworks_7])), (h_b, .inl (cI, 256, .inl vb_8)), (h_r, .inl (cI, 4, .inl vr_9)), (h_w, .inl (cI, 8, .inl vw))] H := hP
    have hD : va_D A [(h_o, .inr (3, [.ref h_w, .ref o_tape, .int o_length, .int o_spent, .ref h_b, .int omany_2, .int oat_3, .int oisOut_4, .ref h_r, .int ovalues_5, .int ofailures_6, .int oworks_7])), (h_b, .inl (cI, 256, .inl vb_8)), (h_r, .inl (cI, 4, .inl vr_9)), (h_w, .inl (cI, 8, .inl vw))] := hD
    refine lv_aload_n hx hb d_M_fails_24 rfl (lv_at hl 0 rfl) ?_
    refine gGet fx hK hP 0 rfl inM rfl (k := 10) (by decide) w_237 rfl d_M_fails_25 ?_
    exact hret _ _ _ (omany_2, oat_3, oisOut_4, ovalues_5, ofailures_6, oworks_7, vb_8, vr_9) _ _ hw rfl hP hD hS d_M_fails_28
  · have hw := hw.2 c9
    refine lv_iconst (v := (-1)) hx hb d_M_fails_12 (by decide) ?_
    exact hret _ _ _ (o_many, o_at, o_isOut, o_values, o_failures, o_works, vb, vr) _ _ hw rfl (gSubP hP [2, 0, 1, 3] rfl) (hD.sub [2, 0, 1, 3] rfl rfl) hS d_M_fails_13
def wp_M_work (post : Int32 → Int32 → Int32 → Int32 → Int32 → Int32 → Int32 → (Nat → Int32) → (Nat → Int32) → Prop) (o_length : Int32) (o_spent : Int32) (o_many : Int32) (o_at : Int32) (o_isOut : Int32) (o_values : Int32) (o_failures : Int32) (o_works : Int32) (vb : Nat → Int32) (vr : Nat → Int32) (vw : Nat → Int32) (x1 : Int32) (x2 : Int32) (x3 : Int32) (x4 : Int32) : Prop :=
  wp_M_isAll (fun r_1 => ((¬ r_1 = 0 → wp_M_tryAll (fun omany_2 oat_3 oisOut_4 ovalues_5 ofailures_6 oworks_7 vb_8 vr_9 => post oworks_7 omany_2 oat_3 oisOut_4 ovalues_5 ofailures_6 oworks_7 vb_8 vr_9) o_length o_spent o_many o_at o_isOut o_values o_failures o_works vb vr vw x1 x2 x3 x4 (nI 0)) ∧ (r_1 = 0 → post (-1) o_many o_at o_isOut o_values o_failures o_works vb vr))) o_length o_spent o_many o_at o_isOut o_values o_failures o_works vw x1 x2 x3 x4
abbrev rm_M_work : Room := { frames := 5, cells := 0, slots := 0, locals := 122 }
theorem mf_M_work : gFV y_M_work b_M_work 5 (some .int) 4 := ⟨w_348, w_4, ⟨by decide, by decide, by decide +kernel⟩, w_346, w_347⟩
set_option maxHeartbeats 4000000 in
set_option maxRecDepth 100000 in
theorem c_M_work (l : Launch) (D : va_G) (cI : ClassId) (h_o : Nat) (h_b : Nat) (h_r : Nat) (h_w : Nat) (o_tape : Nat) (o_length : Int32) (o_spent : Int32) (o_many : Int32) (o_at : Int32) (o_isOut : Int32) (o_values : Int32) (o_failures : Int32) (o_works : Int32) (vb : Nat → Int32) (vr : Nat → Int32) (vw : Nat → Int32) (x1 : Int32) (x2 : Int32) (x3 : Int32) (x4 : Int32) (post : Int32 → Int32 → Int32 → Int32 → Int32 → Int32 → Int32 → (Nat → Int32) → (Nat → Int32) → Prop) (hw : wp_M_work post o_length o_spent o_many o_at o_isOut o_values o_failures o_works vb vr vw x1 x2 x3 x4) :
    gMi l D [(cI, .int)] y_M_work b_M_work 5 .int rm_M_work [.ref h_o, .int x1, .int x2, .int x3, .int x4] [(h_o, .inr (3, [.ref h_w, .ref o_tape, .int o_length, .int o_spent, .ref h_b, .int o_many, .int o_at, .int o_isOut, .ref h_r, .int o_values, .int o_failures, .int o_works])), (h_b, .inl (cI, 256, .inl vb)), (h_r, .inl (cI, 4, .inl vr)), (h_w, .inl (cI, 8, .inl vw))] (S := Int32 × Int32 × Int32 × Int32 × Int32 × Int32 × (Nat → Int32) × (Nat → Int32)) (fun u => [(h_o, .inr (3, [.ref h_w, .ref o_tape, .int o_length, .int o_spent, .ref h_b, .int u.1, .int u.2.1, .int u.2.2.1, .ref h_r, .int u.2.2.2.1, .int u.2.2.2.2.1, .int u.2.2.2.2.2.1])), (h_b, .inl (cI, 256, .inl u.2.2.2.2.2.2.1)), (h_r, .inl (cI, 4, .inl u.2.2.2.2.2.2.2)), (h_w, .inl (cI, 8, .inl vw))]) (fun r u => post r u.1 u.2.1 u.2.2.1 u.2.2.2.1 u.2.2.2.2.1 u.2.2.2.2.2.1 u.2.2.2.2.2.2.1 u.2.2.2.2.2.2.2) := by
  rw [wp_M_work] at hw
  refine gMi.of (by decide) (Nat.le_of_ble_eq_true rfl) (fun p e s m args below meth c A Q ls hx hb hml hown hts hN hK hA hP hD hret hl => ?_)
  have fx : CallFix p m c b_M_work 5 s args gG "TapeCounterModel" := ⟨hx, hb, hml, hown, hts⟩
  have hl : lv_has ls 5 [(0, .ref h_o), (1, .int x1), (2, .int x2), (3, .int x3), (4, .int x4)] := hl
  have hS : va_S A s.heap s.heap [] := va_S.rf
  refine lv_aload_n hx hb d_M_work_0 rfl (lv_at hl 0 rfl) ?_
  refine lv_iload_n hx hb d_M_work_1 rfl (lv_at hl 1 rfl) ?_
  refine lv_iload_n hx hb d_M_work_2 rfl (lv_at hl 2 rfl) ?_
  refine lv_iload_n hx hb d_M_work_3 rfl (lv_at hl 3 rfl) ?_
  refine lv_iload hx hb d_M_work_4 (lv_at hl 4 rfl) ?_
  refine g_cVi (wr := [(h_b, .inl (cI, 256, .inl vb)), (h_r, .inl (cI, 4, .inl vr))]) fx (c_M_isAll l D cI h_o h_w o_tape h_b h_r o_length o_spent o_many o_at o_isOut o_values o_failures o_works vw x1 x2 x3 x4 _ hw) mf_M_isAll w_333 ⟨rfl, rfl⟩ ⟨Nat.le_of_ble_eq_true rfl, Nat.le_of_ble_eq_true rfl⟩ hN hK hA hP hD hS [0, 3] [1, 2] rfl rfl rfl rfl (by decide) 0 rfl rfl rfl rfl hl.1 (Nat.le_of_ble_eq_true rfl) d_M_work_6 ⟨Nat.zero_le _, Nat.zero_le _⟩ (fun r_1 u H locs hw hP hD hS => ?_)
  try dsimp only at hw
  have hP : va_P D gCl [(h_b, .inl (cI, 256, .inl vb)), (h_r, .inl (cI, 4, .inl vr)), (h_o, .inr (3, [.ref h_w, .ref o_tape, .int o_length, .int o_spent, .ref h_b, .int o_many, .int o_at, .int o_isOut, .ref h_r, .int o_values, .int o_failures, .int o_works])), (h_w, .inl (cI, 8, .inl vw))] H := hP
  have hD : va_D A [(h_b, .inl (cI, 256, .inl vb)), (h_r, .inl (cI, 4, .inl vr)), (h_o, .inr (3, [.ref h_w, .ref o_tape, .int o_length, .int o_spent, .ref h_b, .int o_many, .int o_at, .int o_isOut, .ref h_r, .int o_values, .int o_failures, .int o_works])), (h_w, .inl (cI, 8, .inl vw))] := hD
  refine lv_if_ne (tgt := 14) hx hb d_M_work_9 (by decide) (fun c9 => ?_) (fun c9 => ?_)
  · have hw := hw.1 c9
    refine lv_aload_n hx hb d_M_work_14 rfl (lv_at hl 0 rfl) ?_
    refine lv_iload_n hx hb d_M_work_15 rfl (lv_at hl 1 rfl) ?_
    refine lv_iload_n hx hb d_M_work_16 rfl (lv_at hl 2 rfl) ?_
    refine lv_iload_n hx hb d_M_work_17 rfl (lv_at hl 3 rfl) ?_
    refine lv_iload hx hb d_M_work_18 (lv_at hl 4 rfl) ?_
    refine lv_iconst (v := (nI 0)) hx hb d_M_work_20 (by decide) ?_
    refine g_cVv (wr := []) fx (c_M_tryAll l D cI h_o h_b h_r h_w o_tape o_length o_spent o_many o_at o_isOut o_values o_failures o_works vb vr vw x1 x2 x3 x4 (nI 0) _ hw) mf_M_tryAll w_337 ⟨rfl, rfl⟩ ⟨Nat.le_of_ble_eq_true rfl, Nat.le_of_ble_eq_true rfl⟩ hN hK hA hP hD hS [2, 0, 1, 3] [] rfl rfl rfl rfl (by decide) 0 rfl rfl rfl rfl hl.1 (Nat.le_of_ble_eq_true rfl) d_M_work_21 ⟨Nat.zero_le _, Nat.zero_le _⟩ (fun u H locs hw hP hD hS => ?_)
    obtain ⟨omany_2, oat_3, oisOut_4, ovalues_5, ofailures_6, oworks_7, vb_8, vr_9⟩ := u
    try dsimp only at hw
    have hP : va_P D gCl [(h_o, .inr (3, [.ref h_w, .ref o_tape, .int o_length, .int o_spent, .ref h_b, .int omany_2, .int oat_3, .int oisOut_4, .ref h_r, .int ovalues_5, .int ofailures_6, .int oworks_7])), (h_b, .inl (cI, 256, .inl vb_8)), (h_r, .inl (cI, 4, .inl vr_9)), (h_w, .inl (cI, 8, .inl vw))] H := hP
    have hD : va_D A [(h_o, .inr (3, [.ref h_w, .ref o_tape, .int o_length, .int o_spent, .ref h_b, .int omany_2, .int oat_3, .int oisOut_4, .ref h_r, .int ovalues_5, .int ofailures_6, .int oworks_7])), (h_b, .inl (cI, 256, .inl vb_8)), (h_r, .inl (cI, 4, .inl vr_9)), (h_w, .inl (cI, 8, .inl vw))] := hD
    refine lv_aload_n hx hb d_M_work_24 rfl (lv_at hl 0 rfl) ?_
    refine gGet fx hK hP 0 rfl inM rfl (k := 11) (by decide) w_238 rfl d_M_work_25 ?_
    exact hret _ _ _ (omany_2, oat_3, oisOut_4, ovalues_5, ofailures_6, oworks_7, vb_8, vr_9) _ _ hw rfl hP hD hS d_M_work_28
  · have hw := hw.2 c9
    refine lv_iconst (v := (-1)) hx hb d_M_work_12 (by decide) ?_
    exact hret _ _ _ (o_many, o_at, o_isOut, o_values, o_failures, o_works, vb, vr) _ _ hw rfl (gSubP hP [2, 0, 1, 3] rfl) (hD.sub [2, 0, 1, 3] rfl rfl) hS d_M_work_13
def wpF_M_first_15 (post : Int32 → Int32 → Int32 → Int32 → Int32 → Int32 → Int32 → (Nat → Int32) → (Nat → Int32) → Prop) (o_length : Int32) (o_spent : Int32) (vw : Nat → Int32) (x1 : Int32) (x2 : Int32) (x3 : Int32) (x4 : Int32) (K_15 : Int32 → Int32 → Int32 → Int32 → Int32 → Int32 → (Nat → Int32) → (Nat → Int32) → Int32 → Prop) (o_many : Int32) (o_at : Int32) (o_isOut : Int32) (o_values : Int32) (o_failures : Int32) (o_works : Int32) (vb : Nat → Int32) (vr : Nat → Int32) (x5 : Int32) : Prop :=
  (((nI 12) < x5 → post (nI 13) o_many o_at o_isOut o_values o_failures o_works vb vr) ∧ (¬ (nI 12) < x5 → wp_M_tryAll (fun omany_2 oat_3 oisOut_4 ovalues_5 ofailures_6 oworks_7 vb_8 vr_9 => ((ovalues_5 ≤ 0 → K_15 omany_2 oat_3 oisOut_4 ovalues_5 ofailures_6 oworks_7 vb_8 vr_9 (x5 + (nI 1))) ∧ (¬ ovalues_5 ≤ 0 → post x5 omany_2 oat_3 oisOut_4 ovalues_5 ofailures_6 oworks_7 vb_8 vr_9))) o_length o_spent o_many o_at o_isOut o_values o_failures o_works vb vr vw x1 x2 x3 x5 x4))
def wp_M_first (post : Int32 → Int32 → Int32 → Int32 → Int32 → Int32 → Int32 → (Nat → Int32) → (Nat → Int32) → Prop) (o_length : Int32) (o_spent : Int32) (o_many : Int32) (o_at : Int32) (o_isOut : Int32) (o_values : Int32) (o_failures : Int32) (o_works : Int32) (vb : Nat → Int32) (vr : Nat → Int32) (vw : Nat → Int32) (x1 : Int32) (x2 : Int32) (x3 : Int32) (x4 : Int32) : Prop :=
  wp_M_isOne (fun r_1 => ((¬ r_1 = 0 → (∃ n, gL9 (wpF_M_first_15 post o_length o_spent vw x1 x2 x3 x4) n o_many o_at o_isOut o_values o_failures o_works vb vr (nI 0))) ∧ (r_1 = 0 → post (-1) o_many o_at o_isOut o_values o_failures o_works vb vr))) o_length o_spent o_many o_at o_isOut o_values o_failures o_works vw x1 x2 x3
abbrev rm_M_first : Room := { frames := 5, cells := 0, slots := 0, locals := 122 }
theorem mf_M_first : gFV y_M_first b_M_first 6 (some .int) 4 := ⟨w_352, w_4, ⟨by decide, by decide, by decide +kernel⟩, w_350, w_351⟩
set_option maxHeartbeats 4000000 in
set_option maxRecDepth 100000 in
theorem c_M_first (l : Launch) (D : va_G) (cI : ClassId) (h_o : Nat) (h_b : Nat) (h_r : Nat) (h_w : Nat) (o_tape : Nat) (o_length : Int32) (o_spent : Int32) (o_many : Int32) (o_at : Int32) (o_isOut : Int32) (o_values : Int32) (o_failures : Int32) (o_works : Int32) (vb : Nat → Int32) (vr : Nat → Int32) (vw : Nat → Int32) (x1 : Int32) (x2 : Int32) (x3 : Int32) (x4 : Int32) (post : Int32 → Int32 → Int32 → Int32 → Int32 → Int32 → Int32 → (Nat → Int32) → (Nat → Int32) → Prop) (hw : wp_M_first post o_length o_spent o_many o_at o_isOut o_values o_failures o_works vb vr vw x1 x2 x3 x4) :
    gMi l D [(cI, .int)] y_M_first b_M_first 6 .int rm_M_first [.ref h_o, .int x1, .int x2, .int x3, .int x4] [(h_o, .inr (3, [.ref h_w, .ref o_tape, .int o_length, .int o_spent, .ref h_b, .int o_many, .int o_at, .int o_isOut, .ref h_r, .int o_values, .int o_failures, .int o_works])), (h_b, .inl (cI, 256, .inl vb)), (h_r, .inl (cI, 4, .inl vr)), (h_w, .inl (cI, 8, .inl vw))] (S := Int32 × Int32 × Int32 × Int32 × Int32 × Int32 × (Nat → Int32) × (Nat → Int32)) (fun u => [(h_o, .inr (3, [.ref h_w, .ref o_tape, .int o_length, .int o_spent, .ref h_b, .int u.1, .int u.2.1, .int u.2.2.1, .ref h_r, .int u.2.2.2.1, .int u.2.2.2.2.1, .int u.2.2.2.2.2.1])), (h_b, .inl (cI, 256, .inl u.2.2.2.2.2.2.1)), (h_r, .inl (cI, 4, .inl u.2.2.2.2.2.2.2)), (h_w, .inl (cI, 8, .inl vw))]) (fun r u => post r u.1 u.2.1 u.2.2.1 u.2.2.2.1 u.2.2.2.2.1 u.2.2.2.2.2.1 u.2.2.2.2.2.2.1 u.2.2.2.2.2.2.2) := by
  rw [wp_M_first] at hw
  refine gMi.of (by decide) (Nat.le_of_ble_eq_true rfl) (fun p e s m args below meth c A Q ls hx hb hml hown hts hN hK hA hP hD hret hl => ?_)
  have fx : CallFix p m c b_M_first 6 s args gG "TapeCounterModel" := ⟨hx, hb, hml, hown, hts⟩
  have hl : lv_has ls 6 [(0, .ref h_o), (1, .int x1), (2, .int x2), (3, .int x3), (4, .int x4)] := hl
  have hS : va_S A s.heap s.heap [] := va_S.rf
  refine lv_aload_n hx hb d_M_first_0 rfl (lv_at hl 0 rfl) ?_
  refine lv_iload_n hx hb d_M_first_1 rfl (lv_at hl 1 rfl) ?_
  refine lv_iload_n hx hb d_M_first_2 rfl (lv_at hl 2 rfl) ?_
  refine lv_iload_n hx hb d_M_first_3 rfl (lv_at hl 3 rfl) ?_
  refine g_cVi (wr := [(h_b, .inl (cI, 256, .inl vb)), (h_r, .inl (cI, 4, .inl vr))]) fx (c_M_isOne l D cI h_o h_w o_tape h_b h_r o_length o_spent o_many o_at o_isOut o_values o_failures o_works vw x1 x2 x3 _ hw) mf_M_isOne w_292 ⟨rfl, rfl⟩ ⟨Nat.le_of_ble_eq_true rfl, Nat.le_of_ble_eq_true rfl⟩ hN hK hA hP hD hS [0, 3] [1, 2] rfl rfl rfl rfl (by decide) 0 rfl rfl rfl rfl hl.1 (Nat.le_of_ble_eq_true rfl) d_M_first_4 ⟨Nat.zero_le _, Nat.zero_le _⟩ (fun r_1 u H locs hw hP hD hS => ?_)
  try dsimp only at hw
  have hP : va_P D gCl [(h_b, .inl (cI, 256, .inl vb)), (h_r, .inl (cI, 4, .inl vr)), (h_o, .inr (3, [.ref h_w, .ref o_tape, .int o_length, .int o_spent, .ref h_b, .int o_many, .int o_at, .int o_isOut, .ref h_r, .int o_values, .int o_failures, .int o_works])), (h_w, .inl (cI, 8, .inl vw))] H := hP
  have hD : va_D A [(h_b, .inl (cI, 256, .inl vb)), (h_r, .inl (cI, 4, .inl vr)), (h_o, .inr (3, [.ref h_w, .ref o_tape, .int o_length, .int o_spent, .ref h_b, .int o_many, .int o_at, .int o_isOut, .ref h_r, .int o_values, .int o_failures, .int o_works])), (h_w, .inl (cI, 8, .inl vw))] := hD
  refine lv_if_ne (tgt := 12) hx hb d_M_first_7 (by decide) (fun c7 => ?_) (fun c7 => ?_)
  · have hw := hw.1 c7
    refine lv_iconst (v := (nI 0)) hx hb d_M_first_12 (by decide) ?_
    refine lv_istore (lv' := [(5, .int (nI 0)), (0, .ref h_o), (1, .int x1), (2, .int x2), (3, .int x3), (4, .int x4)]) hx hb d_M_first_13 hl (by decide) rfl (fun ls hl => ?_)
    obtain ⟨n_15, hw⟩ := hw
    have k_15 : ∀ (n_15 : Nat) (o_many : Int32) (o_at : Int32) (o_isOut : Int32) (o_values : Int32) (o_failures : Int32) (o_works : Int32) (vb : Nat → Int32) (vr : Nat → Int32) (x5 : Int32), gL9 (wpF_M_first_15 post o_length o_spent vw x1 x2 x3 x4) n_15 o_many o_at o_isOut o_values o_failures o_works vb vr x5 → ∀ (H : Heap) (locs : List Loc) (ls : Array Slot), va_P D gCl [(h_b, .inl (cI, 256, .inl vb)), (h_r, .inl (cI, 4, .inl vr)), (h_o, .inr (3, [.ref h_w, .ref o_tape, .int o_length, .int o_spent, .ref h_b, .int o_many, .int o_at, .int o_isOut, .ref h_r, .int o_values, .int o_failures, .int o_works])), (h_w, .inl (cI, 8, .inl vw))] H → va_D A [(h_b, .inl (cI, 256, .inl vb)), (h_r, .inl (cI, 4, .inl vr)), (h_o, .inr (3, [.ref h_w, .ref o_tape, .int o_length, .int o_spent, .ref h_b, .int o_many, .int o_at, .int o_isOut, .ref h_r, .int o_values, .int o_failures, .int o_works])), (h_w, .inl (cI, 8, .inl vw))] → va_S A s.heap H locs → lv_has ls 6 [(5, .int x5), (0, .ref h_o), (1, .int x1), (2, .int x2), (3, .int x3), (4, .int x4)] → W p l e rm_M_first s m args below meth c H locs 0 0 Q (F0 m 15 ls []) := by
      clear hw hP hD hS hl
      intro n_15
      induction n_15 with
      | zero => exact fun _ _ _ _ _ _ _ _ _ h => h.elim
      | succ n_15 ih_15 =>
        intro o_many o_at o_isOut o_values o_failures o_works vb vr x5 hw H locs ls hP hD hS hl
        have hw : wpF_M_first_15 post o_length o_spent vw x1 x2 x3 x4 (gL9 (wpF_M_first_15 post o_length o_spent vw x1 x2 x3 x4) n_15) o_many o_at o_isOut o_values o_failures o_works vb vr x5 := hw
        rw [wpF_M_first_15] at hw
        refine lv_iload hx hb d_M_first_15 (lv_at hl 0 rfl) ?_
        refine lv_bipush (v := (nI 12)) hx hb d_M_first_17 (by decide) ?_
        refine lv_icmp_gt (tgt := 49) hx hb d_M_first_19 (by decide) (fun c19 => ?_) (fun c19 => ?_)
        · have hw := hw.1 c19
          refine lv_bipush (v := (nI 13)) hx hb d_M_first_49 (by decide) ?_
          exact hret _ _ _ (o_many, o_at, o_isOut, o_values, o_failures, o_works, vb, vr) _ _ hw rfl (gSubP hP [2, 0, 1, 3] rfl) (hD.sub [2, 0, 1, 3] rfl rfl) hS d_M_first_51
        · have hw := hw.2 c19
          refine lv_aload_n hx hb d_M_first_22 rfl (lv_at hl 1 rfl) ?_
          refine lv_iload_n hx hb d_M_first_23 rfl (lv_at hl 2 rfl) ?_
          refine lv_iload_n hx hb d_M_first_24 rfl (lv_at hl 3 rfl) ?_
          refine lv_iload_n hx hb d_M_first_25 rfl (lv_at hl 4 rfl) ?_
          refine lv_iload hx hb d_M_first_26 (lv_at hl 0 rfl) ?_
          refine lv_iload hx hb d_M_first_28 (lv_at hl 5 rfl) ?_
          refine g_cVv (wr := []) fx (c_M_tryAll l D cI h_o h_b h_r h_w o_tape o_length o_spent o_many o_at o_isOut o_values o_failures o_works vb vr vw x1 x2 x3 x5 x4 _ hw) mf_M_tryAll w_337 ⟨rfl, rfl⟩ ⟨Nat.le_of_ble_eq_true rfl, Nat.le_of_ble_eq_true rfl⟩ hN hK hA hP hD hS [2, 0, 1, 3] [] rfl rfl rfl rfl (by decide) 0 rfl rfl rfl rfl hl.1 (Nat.le_of_ble_eq_true rfl) d_M_first_30 ⟨Nat.zero_le _, Nat.zero_le _⟩ (fun u H locs hw hP hD hS => ?_)
          obtain ⟨omany_2, oat_3, oisOut_4, ovalues_5, ofailures_6, oworks_7, vb_8, vr_9⟩ := u
          try dsimp only at hw
          have hP : va_P D gCl [(h_o, .inr (3, [.ref h_w, .ref o_tape, .int o_length, .int o_spent, .ref h_b, .int omany_2, .int oat_3, .int oisOut_4, .ref h_r, .int ovalues_5, .int ofailures_6, .int oworks_7])), (h_b, .inl (cI, 256, .inl vb_8)), (h_r, .inl (cI, 4, .inl vr_9)), (h_w, .inl (cI, 8, .inl vw))] H := hP
          have hD : va_D A [(h_o, .inr (3, [.ref h_w, .ref o_tape, .int o_length, .int o_spent, .ref h_b, .int omany_2, .int oat_3, .int oisOut_4, .ref h_r, .int ovalues_5, .int ofailures_6, .int oworks_7])), (h_b, .inl (cI, 256, .inl vb_8)), (h_r, .inl (cI, 4, .inl vr_9)), (h_w, .inl (cI, 8, .inl vw))] := hD
          refine lv_aload_n hx hb d_M_first_33 rfl (lv_at hl 1 rfl) ?_
          refine gGet fx hK hP 0 rfl inM rfl (k := 9) (by decide) w_236 rfl d_M_first_34 ?_
          refine lv_if_le (tgt := 43) hx hb d_M_first_37 (by decide) (fun c37 => ?_) (fun c37 => ?_)
          · have hw := hw.1 c37
            refine lv_iinc (v := (x5 + (nI 1))) (lv' := [(5, .int (x5 + (nI 1))), (0, .ref h_o), (1, .int x1), (2, .int x2), (3, .int x3), (4, .int x4)]) hx hb d_M_first_43 hl (k := 0) rfl rfl (by decide) rfl (fun ls hl => ?_)
            refine lv_goto (tgt := 15) hx hb d_M_first_46 (by decide) ?_
            exact ih_15 _ _ _ _ _ _ _ _ _ hw _ _ _ (gSubP hP [1, 2, 0, 3] rfl) (hD.sub [1, 2, 0, 3] rfl rfl) hS (lv_sub hl [0, 1, 2, 3, 4, 5] rfl)
          · have hw := hw.2 c37
            refine lv_iload hx hb d_M_first_40 (lv_at hl 0 rfl) ?_
            exact hret _ _ _ (omany_2, oat_3, oisOut_4, ovalues_5, ofailures_6, oworks_7, vb_8, vr_9) _ _ hw rfl hP hD hS d_M_first_42
    exact k_15 n_15 _ _ _ _ _ _ _ _ _ hw _ _ _ hP hD hS (lv_sub hl [0, 1, 2, 3, 4, 5] rfl)
  · have hw := hw.2 c7
    refine lv_iconst (v := (-1)) hx hb d_M_first_10 (by decide) ?_
    exact hret _ _ _ (o_many, o_at, o_isOut, o_values, o_failures, o_works, vb, vr) _ _ hw rfl (gSubP hP [2, 0, 1, 3] rfl) (hD.sub [2, 0, 1, 3] rfl rfl) hS d_M_first_11
