def wpF_L_law_18 (sL : Nat) (xs : Nat → Int32) (K_18 : Int32 → (Nat → Int32) → (Nat → Int32) → Int32 → Int32 → (Nat → Int32) → Int32 → Int32 → (Nat → Int32) → Int32 → Int32 → Int32 → Int32 → Int32 → Int32 → Int32 → Int32 → Int32 → Int32 → Int32 → Int32 → (Nat → Int32) → (Nat → Int32) → (Nat → Int32) → (Nat → Int32) → Int32 → Prop) (c_latestSpent : Int32) (vw : Nat → Int32) (vr : Nat → Int32) (t_size : Int32) (t_at : Int32) (vb : Nat → Int32) (k_size : Int32) (k_at : Int32) (vkb : Nat → Int32) (y_hits : Int32) (y_runOuts : Int32) (y_bitsRead : Int32) (y_fewestBits : Int32) (o_length : Int32) (o_spent : Int32) (o_many : Int32) (o_at : Int32) (o_isOut : Int32) (o_values : Int32) (o_failures : Int32) (o_works : Int32) (vow : Nat → Int32) (voq : Nat → Int32) (vob : Nat → Int32) (vor : Nat → Int32) (x3 : Int32) : Prop :=
  ((((nI sL) - (nI 6)) < x3 → True) ∧ (¬ ((nI sL) - (nI 6)) < x3 → (vp_in x3 sL ∧ ((((xs (x3).toNatClampNeg) &&& (nI 15)) = nI 0 → (vp_in (x3 + (nI 1)) sL ∧ (vp_in (x3 + (nI 2)) sL ∧ wp_C_weigh (fun r_3 vw_4 => (vp_in (x3 + (nI 1)) sL ∧ (vp_in (x3 + (nI 2)) sL ∧ wp_M_weigh (fun r_5 vw_6 => ((r_3 = r_5 → K_18 c_latestSpent vw_4 vr t_size t_at vb k_size k_at vkb y_hits y_runOuts y_bitsRead y_fewestBits o_length o_spent o_many o_at o_isOut o_values o_failures o_works vw_6 voq vob vor (x3 + (nI 6))) ∧ (¬ r_3 = r_5 → False))) o_length o_spent o_many o_at o_isOut o_values o_failures o_works vow (xs ((x3 + (nI 1))).toNatClampNeg) (xs ((x3 + (nI 2))).toNatClampNeg)))) c_latestSpent vw (xs ((x3 + (nI 1))).toNatClampNeg) (xs ((x3 + (nI 2))).toNatClampNeg)))) ∧ (¬ ((xs (x3).toNatClampNeg) &&& (nI 15)) = nI 0 → ((((xs (x3).toNatClampNeg) &&& (nI 15)) = nI 1 → (vp_in (x3 + (nI 1)) sL ∧ wp_C_weight (fun r_7 => (vp_in (x3 + (nI 1)) sL ∧ wp_M_weight (fun r_8 => ((r_7 = r_8 → K_18 c_latestSpent vw vr t_size t_at vb k_size k_at vkb y_hits y_runOuts y_bitsRead y_fewestBits o_length o_spent o_many o_at o_isOut o_values o_failures o_works vow voq vob vor (x3 + (nI 6))) ∧ (¬ r_7 = r_8 → False))) o_length o_spent o_many o_at o_isOut o_values o_failures o_works vow (xs ((x3 + (nI 1))).toNatClampNeg))) c_latestSpent vw (xs ((x3 + (nI 1))).toNatClampNeg))) ∧ (¬ ((xs (x3).toNatClampNeg) &&& (nI 15)) = nI 1 → ((((xs (x3).toNatClampNeg) &&& (nI 15)) = nI 2 → (vp_in (x3 + (nI 1)) sL ∧ (vp_in (x3 + (nI 2)) sL ∧ wp_C_feed (fun r_9 tsize_10 vb_11 => (vp_in (x3 + (nI 1)) sL ∧ (vp_in (x3 + (nI 2)) sL ∧ wp_M_feed (fun r_12 olength_13 vq_14 => ((r_9 = r_12 → K_18 c_latestSpent vw vr tsize_10 t_at vb_11 k_size k_at vkb y_hits y_runOuts y_bitsRead y_fewestBits olength_13 o_spent o_many o_at o_isOut o_values o_failures o_works vow vq_14 vob vor (x3 + (nI 6))) ∧ (¬ r_9 = r_12 → False))) o_length o_spent o_many o_at o_isOut o_values o_failures o_works voq (xs ((x3 + (nI 1))).toNatClampNeg) (xs ((x3 + (nI 2))).toNatClampNeg)))) 256 c_latestSpent t_size t_at vb (xs ((x3 + (nI 1))).toNatClampNeg) (xs ((x3 + (nI 2))).toNatClampNeg)))) ∧ (¬ ((xs (x3).toNatClampNeg) &&& (nI 15)) = nI 2 → ((((xs (x3).toNatClampNeg) &&& (nI 15)) = nI 3 → wp_C_left (fun r_15 => wp_M_left (fun r_16 => ((r_15 = r_16 → K_18 c_latestSpent vw vr t_size t_at vb k_size k_at vkb y_hits y_runOuts y_bitsRead y_fewestBits o_length o_spent o_many o_at o_isOut o_values o_failures o_works vow voq vob vor (x3 + (nI 6))) ∧ (¬ r_15 = r_16 → False))) o_length o_spent o_many o_at o_isOut o_values o_failures o_works) 256 c_latestSpent t_size t_at vb) ∧ (¬ ((xs (x3).toNatClampNeg) &&& (nI 15)) = nI 3 → ((((xs (x3).toNatClampNeg) &&& (nI 15)) = nI 4 → (vp_in (x3 + (nI 1)) sL ∧ (vp_in (x3 + (nI 2)) sL ∧ (vp_in (x3 + (nI 3)) sL ∧ wp_C_isOne (fun r_17 => (vp_in (x3 + (nI 1)) sL ∧ (vp_in (x3 + (nI 2)) sL ∧ (vp_in (x3 + (nI 3)) sL ∧ wp_M_isOne (fun r_18 => ((r_17 = r_18 → K_18 c_latestSpent vw vr t_size t_at vb k_size k_at vkb y_hits y_runOuts y_bitsRead y_fewestBits o_length o_spent o_many o_at o_isOut o_values o_failures o_works vow voq vob vor (x3 + (nI 6))) ∧ (¬ r_17 = r_18 → False))) o_length o_spent o_many o_at o_isOut o_values o_failures o_works vow (xs ((x3 + (nI 1))).toNatClampNeg) (xs ((x3 + (nI 2))).toNatClampNeg) (xs ((x3 + (nI 3))).toNatClampNeg))))) c_latestSpent vw (xs ((x3 + (nI 1))).toNatClampNeg) (xs ((x3 + (nI 2))).toNatClampNeg) (xs ((x3 + (nI 3))).toNatClampNeg))))) ∧ (¬ ((xs (x3).toNatClampNeg) &&& (nI 15)) = nI 4 → ((((xs (x3).toNatClampNeg) &&& (nI 15)) = nI 5 → (vp_in (x3 + (nI 1)) sL ∧ (vp_in (x3 + (nI 2)) sL ∧ (vp_in (x3 + (nI 3)) sL ∧ wp_C_draw (fun r_19 clatestSpent_20 vr_21 tsize_22 tat_23 vb_24 => (vp_in (x3 + (nI 1)) sL ∧ (vp_in (x3 + (nI 2)) sL ∧ (vp_in (x3 + (nI 3)) sL ∧ wp_M_draw (fun r_25 olength_26 ospent_27 omany_28 oat_29 oisOut_30 vb_31 vr_32 vq_33 => ((r_19 = r_25 → K_18 clatestSpent_20 vw vr_21 tsize_22 tat_23 vb_24 k_size k_at vkb y_hits y_runOuts y_bitsRead y_fewestBits olength_26 ospent_27 omany_28 oat_29 oisOut_30 o_values o_failures o_works vow vq_33 vb_31 vr_32 (x3 + (nI 6))) ∧ (¬ r_19 = r_25 → False))) o_length o_spent o_many o_at o_isOut o_values o_failures o_works vob vor vow voq (xs ((x3 + (nI 1))).toNatClampNeg) (xs ((x3 + (nI 2))).toNatClampNeg) (xs ((x3 + (nI 3))).toNatClampNeg))))) 256 c_latestSpent vw vr t_size t_at vb (xs ((x3 + (nI 1))).toNatClampNeg) (xs ((x3 + (nI 2))).toNatClampNeg) (xs ((x3 + (nI 3))).toNatClampNeg))))) ∧ (¬ ((xs (x3).toNatClampNeg) &&& (nI 15)) = nI 5 → ((((xs (x3).toNatClampNeg) &&& (nI 15)) = nI 6 → wp_C_spent (fun r_34 => wp_M_spent (fun r_35 => ((r_34 = r_35 → K_18 c_latestSpent vw vr t_size t_at vb k_size k_at vkb y_hits y_runOuts y_bitsRead y_fewestBits o_length o_spent o_many o_at o_isOut o_values o_failures o_works vow voq vob vor (x3 + (nI 6))) ∧ (¬ r_34 = r_35 → False))) o_length o_spent o_many o_at o_isOut o_values o_failures o_works) c_latestSpent) ∧ (¬ ((xs (x3).toNatClampNeg) &&& (nI 15)) = nI 6 → ((((xs (x3).toNatClampNeg) &&& (nI 15)) = nI 7 → (vp_in (x3 + (nI 1)) sL ∧ (vp_in (x3 + (nI 2)) sL ∧ (vp_in (x3 + (nI 3)) sL ∧ (vp_in (x3 + (nI 4)) sL ∧ (vp_in (x3 + (nI 5)) sL ∧ wp_C_count (fun r_36 vr_37 tsize_38 tat_39 vb_40 yhits_41 yrunOuts_42 ybitsRead_43 yfewestBits_44 => (vp_in (x3 + (nI 1)) sL ∧ (vp_in (x3 + (nI 2)) sL ∧ (vp_in (x3 + (nI 3)) sL ∧ (vp_in (x3 + (nI 4)) sL ∧ (vp_in (x3 + (nI 5)) sL ∧ wp_M_count (fun r_45 omany_46 oat_47 oisOut_48 ovalues_49 ofailures_50 oworks_51 vb_52 vr_53 => ((r_36 = r_45 → K_18 c_latestSpent vw vr_37 t_size t_at vb tsize_38 tat_39 vb_40 yhits_41 yrunOuts_42 ybitsRead_43 yfewestBits_44 o_length o_spent omany_46 oat_47 oisOut_48 ovalues_49 ofailures_50 oworks_51 vow voq vb_52 vr_53 (x3 + (nI 6))) ∧ (¬ r_36 = r_45 → False))) o_length o_spent o_many o_at o_isOut o_values o_failures o_works vob vor vow (xs ((x3 + (nI 1))).toNatClampNeg) (xs ((x3 + (nI 2))).toNatClampNeg) (xs ((x3 + (nI 3))).toNatClampNeg) (xs ((x3 + (nI 4))).toNatClampNeg) (xs ((x3 + (nI 5))).toNatClampNeg))))))) 12 c_latestSpent vw vr k_size k_at vkb y_hits y_runOuts y_bitsRead y_fewestBits (xs ((x3 + (nI 1))).toNatClampNeg) (xs ((x3 + (nI 2))).toNatClampNeg) (xs ((x3 + (nI 3))).toNatClampNeg) (xs ((x3 + (nI 4))).toNatClampNeg) (xs ((x3 + (nI 5))).toNatClampNeg))))))) ∧ (¬ ((xs (x3).toNatClampNeg) &&& (nI 15)) = nI 7 → ((((xs (x3).toNatClampNeg) &&& (nI 15)) = nI 8 → (vp_in (x3 + (nI 1)) sL ∧ (vp_in (x3 + (nI 2)) sL ∧ (vp_in (x3 + (nI 3)) sL ∧ (vp_in (x3 + (nI 4)) sL ∧ wp_C_fails (fun r_54 vr_55 tsize_56 tat_57 vb_58 yhits_59 yrunOuts_60 ybitsRead_61 yfewestBits_62 => (vp_in (x3 + (nI 1)) sL ∧ (vp_in (x3 + (nI 2)) sL ∧ (vp_in (x3 + (nI 3)) sL ∧ (vp_in (x3 + (nI 4)) sL ∧ wp_M_fails (fun r_63 omany_64 oat_65 oisOut_66 ovalues_67 ofailures_68 oworks_69 vb_70 vr_71 => ((r_54 = r_63 → K_18 c_latestSpent vw vr_55 t_size t_at vb tsize_56 tat_57 vb_58 yhits_59 yrunOuts_60 ybitsRead_61 yfewestBits_62 o_length o_spent omany_64 oat_65 oisOut_66 ovalues_67 ofailures_68 oworks_69 vow voq vb_70 vr_71 (x3 + (nI 6))) ∧ (¬ r_54 = r_63 → False))) o_length o_spent o_many o_at o_isOut o_values o_failures o_works vob vor vow (xs ((x3 + (nI 1))).toNatClampNeg) (xs ((x3 + (nI 2))).toNatClampNeg) (xs ((x3 + (nI 3))).toNatClampNeg) (xs ((x3 + (nI 4))).toNatClampNeg)))))) 12 c_latestSpent vw vr k_size k_at vkb y_hits y_runOuts y_bitsRead y_fewestBits (xs ((x3 + (nI 1))).toNatClampNeg) (xs ((x3 + (nI 2))).toNatClampNeg) (xs ((x3 + (nI 3))).toNatClampNeg) (xs ((x3 + (nI 4))).toNatClampNeg)))))) ∧ (¬ ((xs (x3).toNatClampNeg) &&& (nI 15)) = nI 8 → ((((xs (x3).toNatClampNeg) &&& (nI 15)) = nI 9 → (vp_in (x3 + (nI 1)) sL ∧ (vp_in (x3 + (nI 2)) sL ∧ (vp_in (x3 + (nI 3)) sL ∧ (vp_in (x3 + (nI 4)) sL ∧ wp_C_work (fun r_72 vr_73 tsize_74 tat_75 vb_76 yhits_77 yrunOuts_78 ybitsRead_79 yfewestBits_80 => (vp_in (x3 + (nI 1)) sL ∧ (vp_in (x3 + (nI 2)) sL ∧ (vp_in (x3 + (nI 3)) sL ∧ (vp_in (x3 + (nI 4)) sL ∧ wp_M_work (fun r_81 omany_82 oat_83 oisOut_84 ovalues_85 ofailures_86 oworks_87 vb_88 vr_89 => ((r_72 = r_81 → K_18 c_latestSpent vw vr_73 t_size t_at vb tsize_74 tat_75 vb_76 yhits_77 yrunOuts_78 ybitsRead_79 yfewestBits_80 o_length o_spent omany_82 oat_83 oisOut_84 ovalues_85 ofailures_86 oworks_87 vow voq vb_88 vr_89 (x3 + (nI 6))) ∧ (¬ r_72 = r_81 → False))) o_length o_spent o_many o_at o_isOut o_values o_failures o_works vob vor vow (xs ((x3 + (nI 1))).toNatClampNeg) (xs ((x3 + (nI 2))).toNatClampNeg) (xs ((x3 + (nI 3))).toNatClampNeg) (xs ((x3 + (nI 4))).toNatClampNeg)))))) 12 c_latestSpent vw vr k_size k_at vkb y_hits y_runOuts y_bitsRead y_fewestBits (xs ((x3 + (nI 1))).toNatClampNeg) (xs ((x3 + (nI 2))).toNatClampNeg) (xs ((x3 + (nI 3))).toNatClampNeg) (xs ((x3 + (nI 4))).toNatClampNeg)))))) ∧ (¬ ((xs (x3).toNatClampNeg) &&& (nI 15)) = nI 9 → ((((xs (x3).toNatClampNeg) &&& (nI 15)) = nI 10 → (vp_in (x3 + (nI 1)) sL ∧ (vp_in (x3 + (nI 2)) sL ∧ (vp_in (x3 + (nI 3)) sL ∧ (vp_in (x3 + (nI 4)) sL ∧ wp_C_first (fun r_90 vr_91 tsize_92 tat_93 vb_94 yhits_95 yrunOuts_96 ybitsRead_97 yfewestBits_98 => (vp_in (x3 + (nI 1)) sL ∧ (vp_in (x3 + (nI 2)) sL ∧ (vp_in (x3 + (nI 3)) sL ∧ (vp_in (x3 + (nI 4)) sL ∧ wp_M_first (fun r_99 omany_100 oat_101 oisOut_102 ovalues_103 ofailures_104 oworks_105 vb_106 vr_107 => ((r_90 = r_99 → K_18 c_latestSpent vw vr_91 t_size t_at vb tsize_92 tat_93 vb_94 yhits_95 yrunOuts_96 ybitsRead_97 yfewestBits_98 o_length o_spent omany_100 oat_101 oisOut_102 ovalues_103 ofailures_104 oworks_105 vow voq vb_106 vr_107 (x3 + (nI 6))) ∧ (¬ r_90 = r_99 → False))) o_length o_spent o_many o_at o_isOut o_values o_failures o_works vob vor vow (xs ((x3 + (nI 1))).toNatClampNeg) (xs ((x3 + (nI 2))).toNatClampNeg) (xs ((x3 + (nI 3))).toNatClampNeg) (xs ((x3 + (nI 4))).toNatClampNeg)))))) 12 c_latestSpent vw vr k_size k_at vkb y_hits y_runOuts y_bitsRead y_fewestBits (xs ((x3 + (nI 1))).toNatClampNeg) (xs ((x3 + (nI 2))).toNatClampNeg) (xs ((x3 + (nI 3))).toNatClampNeg) (xs ((x3 + (nI 4))).toNatClampNeg)))))) ∧ (¬ ((xs (x3).toNatClampNeg) &&& (nI 15)) = nI 10 → K_18 c_latestSpent vw vr t_size t_at vb k_size k_at vkb y_hits y_runOuts y_bitsRead y_fewestBits o_length o_spent o_many o_at o_isOut o_values o_failures o_works vow voq vob vor (x3 + (nI 6)))))))))))))))))))))))))))
def wp_L_law (sL : Nat) (xs : Nat → Int32) : Prop :=
  wp_C_init (fun vw_1 => wp_M_init (fun vow_2 => (∃ n, gL26 (wpF_L_law_18 sL xs) n (nI 0) vw_1 (fun _ => 0) (nI 0) (nI 0) (fun _ => 0) (nI 0) (nI 0) (fun _ => 0) (nI 0) (nI 0) (nI 0) (nI 0) (nI 0) (nI 0) (nI 0) (nI 0) (nI 0) (nI 0) (nI 0) (nI 0) vow_2 (fun _ => 0) (fun _ => 0) (fun _ => 0) (nI 0))))
set_option maxHeartbeats 4000000 in
set_option maxRecDepth 100000 in
theorem law_walk {p : Program} {e : Env} {s : State} {m : MethodId} {below : List Frame} {meth : Method} {c : Code} (l : Launch) {b_s sL : Nat} {xs : Nat → Int32} {D : va_G} {cI : ClassId} (hx : p.tables.exec = Jvm.exec) (hb : c.code = b_L_law) (hr : meth.sig.returnType = ret) (hml : c.maxLocals = 4) (hown : s.vm.findClass "TapeCounterLaw" = some m.cls) (hts : ∀ w ∈ gG, w.before #[Value.ref b_s] s = true) (hN : gNest s) (hX : va_X b_s sL xs s s.heap) (hbl : b_s < s.heap.size) (hlocks : meth.locks = false) (hK : va_K D gCl [(cI, .int)] s) (hw : wp_L_law sL xs) (ls : Array Slot) (hl : lv_has ls 4 [(0, .ref b_s)]) :
    W p l e room_1 s m #[Value.ref b_s] below meth c s.heap [] 0 0 (lw_Z below #[Value.ref b_s] s) (F0 m 0 ls []) := by
  rw [wp_L_law] at hw
  have hA0 : ∃ A : Nat → Prop, (∀ q, s.heap.size ≤ q → A q) ∧ (∀ q, A q → s.heap.size ≤ q) := ⟨fun q => s.heap.size ≤ q, fun _ h => h, fun _ h => h⟩
  obtain ⟨A, hA, hA2⟩ := hA0
  have hbA : ¬ A b_s := fun h => absurd (hA2 _ h) (Nat.not_le.mpr hbl)
  have fx : CallFix p m c b_L_law 4 s #[Value.ref b_s] gG "TapeCounterLaw" := ⟨hx, hb, hml, hown, hts⟩
  have hP : va_P D gCl [] s.heap := fun k q h => by simp at h
  have hD : va_D A [] := ⟨fun i j p q h => by simp at h, fun k q h => by simp at h⟩
  have hS : va_S A s.heap s.heap [] := va_S.rf
  refine gNew (ci := 2) (fs := [.null, .null, .null, .null, .null, .int (nI 0)]) (N := 6) fx hK hA hP hD hS inC tyC rfl w_7 w_8 w_1 (fun j hj => by rcases (show j = 0 ∨ j = 1 ∨ j = 2 ∨ j = 3 ∨ j = 4 ∨ j = 5 by omega) with rfl | rfl | rfl | rfl | rfl | rfl <;> rfl) (by first | exact Nat.le_of_ble_eq_true rfl | (show _ ≤ Nb; omega)) (by first | exact Nat.le_of_ble_eq_true rfl | (show _ ≤ Nb; omega)) d_L_law_0 (fun h_c H hP hD hS => ?_)
  have hP : va_P D gCl [(h_c, .inr (2, [.null, .null, .null, .null, .null, .int (nI 0)]))] H := hP
  have hD : va_D A [(h_c, .inr (2, [.null, .null, .null, .null, .null, .int (nI 0)]))] := hD
  refine lv_dup hx hb d_L_law_3 rfl ?_
  refine g_cI (wr := []) fx (c_C_init l D cI h_c _ hw) mf_C_init w_9 ⟨rfl, rfl⟩ ⟨Nat.le_of_ble_eq_true rfl, Nat.le_of_ble_eq_true rfl⟩ hN hK hA hP hD hS [0] [] rfl rfl rfl rfl (by decide) rfl rfl hl.1 (Nat.le_of_ble_eq_true rfl) d_L_law_4 ⟨(by first | exact Nat.le_of_ble_eq_true rfl | (show _ ≤ Nb; omega)), (by first | exact Nat.le_of_ble_eq_true rfl | (show _ ≤ Nb; omega))⟩ (fun u H locs hw hP hD hS => ?_)
  obtain ⟨h_w, h_r, h_t, h_b, h_k, h_kb, h_y, vw_1⟩ := u
  try dsimp only at hw
  have hP : va_P D gCl [(h_c, .inr (2, [.ref h_w, .ref h_r, .ref h_t, .ref h_k, .ref h_y, .int (nI 0)])), (h_w, .inl (cI, 8, .inl vw_1)), (h_r, .inl (cI, 4, .inl (fun _ => 0))), (h_t, .inr (1, [.ref h_b, .int (nI 0), .int (nI 0)])), (h_b, .inl (cI, 256, .inl (fun _ => 0))), (h_k, .inr (1, [.ref h_kb, .int (nI 0), .int (nI 0)])), (h_kb, .inl (cI, 12, .inl (fun _ => 0))), (h_y, .inr (0, [.int (nI 0), .int (nI 0), .int (nI 0), .int (nI 0)]))] H := hP
  have hD : va_D A [(h_c, .inr (2, [.ref h_w, .ref h_r, .ref h_t, .ref h_k, .ref h_y, .int (nI 0)])), (h_w, .inl (cI, 8, .inl vw_1)), (h_r, .inl (cI, 4, .inl (fun _ => 0))), (h_t, .inr (1, [.ref h_b, .int (nI 0), .int (nI 0)])), (h_b, .inl (cI, 256, .inl (fun _ => 0))), (h_k, .inr (1, [.ref h_kb, .int (nI 0), .int (nI 0)])), (h_kb, .inl (cI, 12, .inl (fun _ => 0))), (h_y, .inr (0, [.int (nI 0), .int (nI 0), .int (nI 0), .int (nI 0)]))] := hD
  refine lv_astore_n (lv' := [(1, .ref h_c), (0, .ref b_s)]) hx hb d_L_law_7 rfl hl (by decide) rfl (fun ls hl => ?_)
  refine gNew (ci := 3) (fs := [.null, .null, .int (nI 0), .int (nI 0), .null, .int (nI 0), .int (nI 0), .int (nI 0), .null, .int (nI 0), .int (nI 0), .int (nI 0)]) (N := 12) fx hK hA hP hD hS inM tyM rfl w_221 w_222 w_4 (fun j hj => by rcases (show j = 0 ∨ j = 1 ∨ j = 2 ∨ j = 3 ∨ j = 4 ∨ j = 5 ∨ j = 6 ∨ j = 7 ∨ j = 8 ∨ j = 9 ∨ j = 10 ∨ j = 11 by omega) with rfl | rfl | rfl | rfl | rfl | rfl | rfl | rfl | rfl | rfl | rfl | rfl <;> rfl) (by first | exact Nat.le_of_ble_eq_true rfl | (show _ ≤ Nb; omega)) (by first | exact Nat.le_of_ble_eq_true rfl | (show _ ≤ Nb; omega)) d_L_law_8 (fun h_o H hP hD hS => ?_)
  have hP : va_P D gCl [(h_c, .inr (2, [.ref h_w, .ref h_r, .ref h_t, .ref h_k, .ref h_y, .int (nI 0)])), (h_w, .inl (cI, 8, .inl vw_1)), (h_r, .inl (cI, 4, .inl (fun _ => 0))), (h_t, .inr (1, [.ref h_b, .int (nI 0), .int (nI 0)])), (h_b, .inl (cI, 256, .inl (fun _ => 0))), (h_k, .inr (1, [.ref h_kb, .int (nI 0), .int (nI 0)])), (h_kb, .inl (cI, 12, .inl (fun _ => 0))), (h_y, .inr (0, [.int (nI 0), .int (nI 0), .int (nI 0), .int (nI 0)])), (h_o, .inr (3, [.null, .null, .int (nI 0), .int (nI 0), .null, .int (nI 0), .int (nI 0), .int (nI 0), .null, .int (nI 0), .int (nI 0), .int (nI 0)]))] H := hP
  have hD : va_D A [(h_c, .inr (2, [.ref h_w, .ref h_r, .ref h_t, .ref h_k, .ref h_y, .int (nI 0)])), (h_w, .inl (cI, 8, .inl vw_1)), (h_r, .inl (cI, 4, .inl (fun _ => 0))), (h_t, .inr (1, [.ref h_b, .int (nI 0), .int (nI 0)])), (h_b, .inl (cI, 256, .inl (fun _ => 0))), (h_k, .inr (1, [.ref h_kb, .int (nI 0), .int (nI 0)])), (h_kb, .inl (cI, 12, .inl (fun _ => 0))), (h_y, .inr (0, [.int (nI 0), .int (nI 0), .int (nI 0), .int (nI 0)])), (h_o, .inr (3, [.null, .null, .int (nI 0), .int (nI 0), .null, .int (nI 0), .int (nI 0), .int (nI 0), .null, .int (nI 0), .int (nI 0), .int (nI 0)]))] := hD
  refine lv_dup hx hb d_L_law_11 rfl ?_
  refine g_cI (wr := [(h_c, .inr (2, [.ref h_w, .ref h_r, .ref h_t, .ref h_k, .ref h_y, .int (nI 0)])), (h_w, .inl (cI, 8, .inl vw_1)), (h_r, .inl (cI, 4, .inl (fun _ => 0))), (h_t, .inr (1, [.ref h_b, .int (nI 0), .int (nI 0)])), (h_b, .inl (cI, 256, .inl (fun _ => 0))), (h_k, .inr (1, [.ref h_kb, .int (nI 0), .int (nI 0)])), (h_kb, .inl (cI, 12, .inl (fun _ => 0))), (h_y, .inr (0, [.int (nI 0), .int (nI 0), .int (nI 0), .int (nI 0)]))]) fx (c_M_init l D cI h_o _ hw) mf_M_init w_223 ⟨rfl, rfl⟩ ⟨Nat.le_of_ble_eq_true rfl, Nat.le_of_ble_eq_true rfl⟩ hN hK hA hP hD hS [8] [0, 1, 2, 3, 4, 5, 6, 7] rfl rfl rfl rfl (by decide) rfl rfl hl.1 (Nat.le_of_ble_eq_true rfl) d_L_law_12 ⟨(by first | exact Nat.le_of_ble_eq_true rfl | (show _ ≤ Nb; omega)), (by first | exact Nat.le_of_ble_eq_true rfl | (show _ ≤ Nb; omega))⟩ (fun u H locs hw hP hD hS => ?_)
  obtain ⟨h_ow, h_oq, h_ob, h_or, vow_2⟩ := u
  try dsimp only at hw
  have hP : va_P D gCl [(h_c, .inr (2, [.ref h_w, .ref h_r, .ref h_t, .ref h_k, .ref h_y, .int (nI 0)])), (h_w, .inl (cI, 8, .inl vw_1)), (h_r, .inl (cI, 4, .inl (fun _ => 0))), (h_t, .inr (1, [.ref h_b, .int (nI 0), .int (nI 0)])), (h_b, .inl (cI, 256, .inl (fun _ => 0))), (h_k, .inr (1, [.ref h_kb, .int (nI 0), .int (nI 0)])), (h_kb, .inl (cI, 12, .inl (fun _ => 0))), (h_y, .inr (0, [.int (nI 0), .int (nI 0), .int (nI 0), .int (nI 0)])), (h_o, .inr (3, [.ref h_ow, .ref h_oq, .int (nI 0), .int (nI 0), .ref h_ob, .int (nI 0), .int (nI 0), .int (nI 0), .ref h_or, .int (nI 0), .int (nI 0), .int (nI 0)])), (h_ow, .inl (cI, 8, .inl vow_2)), (h_oq, .inl (cI, 256, .inl (fun _ => 0))), (h_ob, .inl (cI, 256, .inl (fun _ => 0))), (h_or, .inl (cI, 4, .inl (fun _ => 0)))] H := hP
  have hD : va_D A [(h_c, .inr (2, [.ref h_w, .ref h_r, .ref h_t, .ref h_k, .ref h_y, .int (nI 0)])), (h_w, .inl (cI, 8, .inl vw_1)), (h_r, .inl (cI, 4, .inl (fun _ => 0))), (h_t, .inr (1, [.ref h_b, .int (nI 0), .int (nI 0)])), (h_b, .inl (cI, 256, .inl (fun _ => 0))), (h_k, .inr (1, [.ref h_kb, .int (nI 0), .int (nI 0)])), (h_kb, .inl (cI, 12, .inl (fun _ => 0))), (h_y, .inr (0, [.int (nI 0), .int (nI 0), .int (nI 0), .int (nI 0)])), (h_o, .inr (3, [.ref h_ow, .ref h_oq, .int (nI 0), .int (nI 0), .ref h_ob, .int (nI 0), .int (nI 0), .int (nI 0), .ref h_or, .int (nI 0), .int (nI 0), .int (nI 0)])), (h_ow, .inl (cI, 8, .inl vow_2)), (h_oq, .inl (cI, 256, .inl (fun _ => 0))), (h_ob, .inl (cI, 256, .inl (fun _ => 0))), (h_or, .inl (cI, 4, .inl (fun _ => 0)))] := hD
  refine lv_astore_n (lv' := [(2, .ref h_o), (1, .ref h_c), (0, .ref b_s)]) hx hb d_L_law_15 rfl hl (by decide) rfl (fun ls hl => ?_)
  refine lv_iconst (v := (nI 0)) hx hb d_L_law_16 (by decide) ?_
  refine lv_istore_n (lv' := [(3, .int (nI 0)), (2, .ref h_o), (1, .ref h_c), (0, .ref b_s)]) hx hb d_L_law_17 rfl hl (by decide) rfl (fun ls hl => ?_)
  obtain ⟨n_18, hw⟩ := hw
  have k_18 : ∀ (n_18 : Nat) (c_latestSpent : Int32) (vw : Nat → Int32) (vr : Nat → Int32) (t_size : Int32) (t_at : Int32) (vb : Nat → Int32) (k_size : Int32) (k_at : Int32) (vkb : Nat → Int32) (y_hits : Int32) (y_runOuts : Int32) (y_bitsRead : Int32) (y_fewestBits : Int32) (o_length : Int32) (o_spent : Int32) (o_many : Int32) (o_at : Int32) (o_isOut : Int32) (o_values : Int32) (o_failures : Int32) (o_works : Int32) (vow : Nat → Int32) (voq : Nat → Int32) (vob : Nat → Int32) (vor : Nat → Int32) (x3 : Int32), gL26 (wpF_L_law_18 sL xs) n_18 c_latestSpent vw vr t_size t_at vb k_size k_at vkb y_hits y_runOuts y_bitsRead y_fewestBits o_length o_spent o_many o_at o_isOut o_values o_failures o_works vow voq vob vor x3 → ∀ (H : Heap) (locs : List Loc) (ls : Array Slot), va_P D gCl [(h_c, .inr (2, [.ref h_w, .ref h_r, .ref h_t, .ref h_k, .ref h_y, .int c_latestSpent])), (h_w, .inl (cI, 8, .inl vw)), (h_r, .inl (cI, 4, .inl vr)), (h_t, .inr (1, [.ref h_b, .int t_size, .int t_at])), (h_b, .inl (cI, 256, .inl vb)), (h_k, .inr (1, [.ref h_kb, .int k_size, .int k_at])), (h_kb, .inl (cI, 12, .inl vkb)), (h_y, .inr (0, [.int y_hits, .int y_runOuts, .int y_bitsRead, .int y_fewestBits])), (h_o, .inr (3, [.ref h_ow, .ref h_oq, .int o_length, .int o_spent, .ref h_ob, .int o_many, .int o_at, .int o_isOut, .ref h_or, .int o_values, .int o_failures, .int o_works])), (h_ow, .inl (cI, 8, .inl vow)), (h_oq, .inl (cI, 256, .inl voq)), (h_ob, .inl (cI, 256, .inl vob)), (h_or, .inl (cI, 4, .inl vor))] H → va_D A [(h_c, .inr (2, [.ref h_w, .ref h_r, .ref h_t, .ref h_k, .ref h_y, .int c_latestSpent])), (h_w, .inl (cI, 8, .inl vw)), (h_r, .inl (cI, 4, .inl vr)), (h_t, .inr (1, [.ref h_b, .int t_size, .int t_at])), (h_b, .inl (cI, 256, .inl vb)), (h_k, .inr (1, [.ref h_kb, .int k_size, .int k_at])), (h_kb, .inl (cI, 12, .inl vkb)), (h_y, .inr (0, [.int y_hits, .int y_runOuts, .int y_bitsRead, .int y_fewestBits])), (h_o, .inr (3, [.ref h_ow, .ref h_oq, .int o_length, .int o_spent, .ref h_ob, .int o_many, .int o_at, .int o_isOut, .ref h_or, .int o_values, .int o_failures, .int o_works])), (h_ow, .inl (cI, 8, .inl vow)), (h_oq, .inl (cI, 256, .inl voq)), (h_ob, .inl (cI, 256, .inl vob)), (h_or, .inl (cI, 4, .inl vor))] → va_S A s.heap H locs → lv_has ls 4 [(3, .int x3), (2, .ref h_o), (1, .ref h_c), (0, .ref b_s)] → W p l e room_1 s m #[Value.ref b_s] below meth c H locs ((((0 + 1) + 7) + 1) + 4) ((((0 + 6) + 290) + 12) + 524) (lw_Z below #[Value.ref b_s] s) (F0 m 18 ls []) := by
    clear hw hP hD hS hl
    intro n_18
    induction n_18 with
    | zero => exact fun _ _ _ _ _ _ _ _ _ _ _ _ _ _ _ _ _ _ _ _ _ _ _ _ _ _ h => h.elim
    | succ n_18 ih_18 =>
      intro c_latestSpent vw vr t_size t_at vb k_size k_at vkb y_hits y_runOuts y_bitsRead y_fewestBits o_length o_spent o_many o_at o_isOut o_values o_failures o_works vow voq vob vor x3 hw H locs ls hP hD hS hl
      have hw : wpF_L_law_18 sL xs (gL26 (wpF_L_law_18 sL xs) n_18) c_latestSpent vw vr t_size t_at vb k_size k_at vkb y_hits y_runOuts y_bitsRead y_fewestBits o_length o_spent o_many o_at o_isOut o_values o_failures o_works vow voq vob vor x3 := hw
      rw [wpF_L_law_18] at hw
      refine lv_iload_n hx hb d_L_law_18 rfl (lv_at hl 0 rfl) ?_
      refine lv_aload_n hx hb d_L_law_19 rfl (lv_at hl 3 rfl) ?_
      refine va_slen hx hb hX hbl hbA hS d_L_law_20 ?_
      refine lv_bipush (v := (nI 6)) hx hb d_L_law_21 (by decide) ?_
      refine lv_isub hx hb d_L_law_23 ?_
      refine lv_icmp_gt (tgt := 521) hx hb d_L_law_24 (by decide) (fun c24 => ?_) (fun c24 => ?_)
      · have hw := hw.1 c24
        refine lv_iconst (v := (nI 1)) hx hb d_L_law_521 (by decide) ?_
        refine va_forget (fun q hq => hA2 _ (hS.2.2 q hq)) ?_
        refine W.widen (k := 600000) (n := 7302250) (Nat.le_of_ble_eq_true rfl) (Nat.le_of_ble_eq_true rfl) ?_
        exact lw_ret hx hb hr hlocks d_L_law_522
      · have hw := hw.2 c24
        refine lv_aload_n hx hb d_L_law_27 rfl (lv_at hl 3 rfl) ?_
        refine lv_iload_n hx hb d_L_law_28 rfl (lv_at hl 0 rfl) ?_
        refine va_sld hx hb hX hbl hbA hS hw.1 d_L_law_29 ?_
        have hw := hw.2
        refine lv_bipush (v := (nI 15)) hx hb d_L_law_30 (by decide) ?_
        refine lv_iand hx hb d_L_law_32 ?_
        rcases Classical.em (((xs (x3).toNatClampNeg) &&& (nI 15)) = nI 0) with c33_0 | c33_0
        · have hw := hw.1 c33_0
          refine g_sw (nI 0) (tgt := 92) hx hb d_L_law_33 c33_0 (by decide) (by decide) rfl (by decide) ?_
          refine lv_aload_n hx hb d_L_law_92 rfl (lv_at hl 2 rfl) ?_
          refine lv_aload_n hx hb d_L_law_93 rfl (lv_at hl 3 rfl) ?_
          refine lv_iload_n hx hb d_L_law_94 rfl (lv_at hl 0 rfl) ?_
          refine lv_iconst (v := (nI 1)) hx hb d_L_law_95 (by decide) ?_
          refine lv_iadd hx hb d_L_law_96 ?_
          refine va_sld hx hb hX hbl hbA hS hw.1 d_L_law_97 ?_
          have hw := hw.2
          refine lv_aload_n hx hb d_L_law_98 rfl (lv_at hl 3 rfl) ?_
          refine lv_iload_n hx hb d_L_law_99 rfl (lv_at hl 0 rfl) ?_
          refine lv_iconst (v := (nI 2)) hx hb d_L_law_100 (by decide) ?_
          refine lv_iadd hx hb d_L_law_101 ?_
          refine va_sld hx hb hX hbl hbA hS hw.1 d_L_law_102 ?_
          have hw := hw.2
          refine g_cVi (wr := [(h_r, .inl (cI, 4, .inl vr)), (h_t, .inr (1, [.ref h_b, .int t_size, .int t_at])), (h_b, .inl (cI, 256, .inl vb)), (h_k, .inr (1, [.ref h_kb, .int k_size, .int k_at])), (h_kb, .inl (cI, 12, .inl vkb)), (h_y, .inr (0, [.int y_hits, .int y_runOuts, .int y_bitsRead, .int y_fewestBits])), (h_o, .inr (3, [.ref h_ow, .ref h_oq, .int o_length, .int o_spent, .ref h_ob, .int o_many, .int o_at, .int o_isOut, .ref h_or, .int o_values, .int o_failures, .int o_works])), (h_ow, .inl (cI, 8, .inl vow)), (h_oq, .inl (cI, 256, .inl voq)), (h_ob, .inl (cI, 256, .inl vob)), (h_or, .inl (cI, 4, .inl vor))]) fx (c_C_weigh l D cI h_c h_w h_r h_t h_k h_y c_latestSpent vw (xs ((x3 + (nI 1))).toNatClampNeg) (xs ((x3 + (nI 2))).toNatClampNeg) _ hw) mf_C_weigh w_74 ⟨rfl, rfl⟩ ⟨Nat.le_of_ble_eq_true rfl, Nat.le_of_ble_eq_true rfl⟩ hN hK hA hP hD hS [0, 1] [2, 3, 4, 5, 6, 7, 8, 9, 10, 11, 12] rfl rfl rfl rfl (by decide) 0 rfl rfl rfl rfl hl.1 (Nat.le_of_ble_eq_true rfl) d_L_law_103 ⟨Nat.le_of_ble_eq_true rfl, Nat.le_of_ble_eq_true rfl⟩ (fun r_3 u H locs hw hP hD hS => ?_)
          obtain ⟨vw_4, rfl⟩ : ∃ z, z = u := ⟨_, rfl⟩
          try dsimp only at hw
          have hP : va_P D gCl [(h_r, .inl (cI, 4, .inl vr)), (h_t, .inr (1, [.ref h_b, .int t_size, .int t_at])), (h_b, .inl (cI, 256, .inl vb)), (h_k, .inr (1, [.ref h_kb, .int k_size, .int k_at])), (h_kb, .inl (cI, 12, .inl vkb)), (h_y, .inr (0, [.int y_hits, .int y_runOuts, .int y_bitsRead, .int y_fewestBits])), (h_o, .inr (3, [.ref h_ow, .ref h_oq, .int o_length, .int o_spent, .ref h_ob, .int o_many, .int o_at, .int o_isOut, .ref h_or, .int o_values, .int o_failures, .int o_works])), (h_ow, .inl (cI, 8, .inl vow)), (h_oq, .inl (cI, 256, .inl voq)), (h_ob, .inl (cI, 256, .inl vob)), (h_or, .inl (cI, 4, .inl vor)), (h_c, .inr (2, [.ref h_w, .ref h_r, .ref h_t, .ref h_k, .ref h_y, .int c_latestSpent])), (h_w, .inl (cI, 8, .inl vw_4))] H := hP
          have hD : va_D A [(h_r, .inl (cI, 4, .inl vr)), (h_t, .inr (1, [.ref h_b, .int t_size, .int t_at])), (h_b, .inl (cI, 256, .inl vb)), (h_k, .inr (1, [.ref h_kb, .int k_size, .int k_at])), (h_kb, .inl (cI, 12, .inl vkb)), (h_y, .inr (0, [.int y_hits, .int y_runOuts, .int y_bitsRead, .int y_fewestBits])), (h_o, .inr (3, [.ref h_ow, .ref h_oq, .int o_length, .int o_spent, .ref h_ob, .int o_many, .int o_at, .int o_isOut, .ref h_or, .int o_values, .int o_failures, .int o_works])), (h_ow, .inl (cI, 8, .inl vow)), (h_oq, .inl (cI, 256, .inl voq)), (h_ob, .inl (cI, 256, .inl vob)), (h_or, .inl (cI, 4, .inl vor)), (h_c, .inr (2, [.ref h_w, .ref h_r, .ref h_t, .ref h_k, .ref h_y, .int c_latestSpent])), (h_w, .inl (cI, 8, .inl vw_4))] := hD
          refine lv_aload_n hx hb d_L_law_106 rfl (lv_at hl 1 rfl) ?_
          refine lv_aload_n hx hb d_L_law_107 rfl (lv_at hl 3 rfl) ?_
          refine lv_iload_n hx hb d_L_law_108 rfl (lv_at hl 0 rfl) ?_
          refine lv_iconst (v := (nI 1)) hx hb d_L_law_109 (by decide) ?_
          refine lv_iadd hx hb d_L_law_110 ?_
          refine va_sld hx hb hX hbl hbA hS hw.1 d_L_law_111 ?_
          have hw := hw.2
          refine lv_aload_n hx hb d_L_law_112 rfl (lv_at hl 3 rfl) ?_
          refine lv_iload_n hx hb d_L_law_113 rfl (lv_at hl 0 rfl) ?_
          refine lv_iconst (v := (nI 2)) hx hb d_L_law_114 (by decide) ?_
          refine lv_iadd hx hb d_L_law_115 ?_
          refine va_sld hx hb hX hbl hbA hS hw.1 d_L_law_116 ?_
          have hw := hw.2
          refine g_cVi (wr := [(h_r, .inl (cI, 4, .inl vr)), (h_t, .inr (1, [.ref h_b, .int t_size, .int t_at])), (h_b, .inl (cI, 256, .inl vb)), (h_k, .inr (1, [.ref h_kb, .int k_size, .int k_at])), (h_kb, .inl (cI, 12, .inl vkb)), (h_y, .inr (0, [.int y_hits, .int y_runOuts, .int y_bitsRead, .int y_fewestBits])), (h_oq, .inl (cI, 256, .inl voq)), (h_ob, .inl (cI, 256, .inl vob)), (h_or, .inl (cI, 4, .inl vor)), (h_c, .inr (2, [.ref h_w, .ref h_r, .ref h_t, .ref h_k, .ref h_y, .int c_latestSpent])), (h_w, .inl (cI, 8, .inl vw_4))]) fx (c_M_weigh l D cI h_o h_ow h_oq h_ob h_or o_length o_spent o_many o_at o_isOut o_values o_failures o_works vow (xs ((x3 + (nI 1))).toNatClampNeg) (xs ((x3 + (nI 2))).toNatClampNeg) _ hw) mf_M_weigh w_264 ⟨rfl, rfl⟩ ⟨Nat.le_of_ble_eq_true rfl, Nat.le_of_ble_eq_true rfl⟩ hN hK hA hP hD hS [6, 7] [0, 1, 2, 3, 4, 5, 8, 9, 10, 11, 12] rfl rfl rfl rfl (by decide) 0 rfl rfl rfl rfl hl.1 (Nat.le_of_ble_eq_true rfl) d_L_law_117 ⟨Nat.le_of_ble_eq_true rfl, Nat.le_of_ble_eq_true rfl⟩ (fun r_5 u H locs hw hP hD hS => ?_)
          obtain ⟨vw_6, rfl⟩ : ∃ z, z = u := ⟨_, rfl⟩
          try dsimp only at hw
          have hP : va_P D gCl [(h_r, .inl (cI, 4, .inl vr)), (h_t, .inr (1, [.ref h_b, .int t_size, .int t_at])), (h_b, .inl (cI, 256, .inl vb)), (h_k, .inr (1, [.ref h_kb, .int k_size, .int k_at])), (h_kb, .inl (cI, 12, .inl vkb)), (h_y, .inr (0, [.int y_hits, .int y_runOuts, .int y_bitsRead, .int y_fewestBits])), (h_oq, .inl (cI, 256, .inl voq)), (h_ob, .inl (cI, 256, .inl vob)), (h_or, .inl (cI, 4, .inl vor)), (h_c, .inr (2, [.ref h_w, .ref h_r, .ref h_t, .ref h_k, .ref h_y, .int c_latestSpent])), (h_w, .inl (cI, 8, .inl vw_4)), (h_o, .inr (3, [.ref h_ow, .ref h_oq, .int o_length, .int o_spent, .ref h_ob, .int o_many, .int o_at, .int o_isOut, .ref h_or, .int o_values, .int o_failures, .int o_works])), (h_ow, .inl (cI, 8, .inl vw_6))] H := hP
          have hD : va_D A [(h_r, .inl (cI, 4, .inl vr)), (h_t, .inr (1, [.ref h_b, .int t_size, .int t_at])), (h_b, .inl (cI, 256, .inl vb)), (h_k, .inr (1, [.ref h_kb, .int k_size, .int k_at])), (h_kb, .inl (cI, 12, .inl vkb)), (h_y, .inr (0, [.int y_hits, .int y_runOuts, .int y_bitsRead, .int y_fewestBits])), (h_oq, .inl (cI, 256, .inl voq)), (h_ob, .inl (cI, 256, .inl vob)), (h_or, .inl (cI, 4, .inl vor)), (h_c, .inr (2, [.ref h_w, .ref h_r, .ref h_t, .ref h_k, .ref h_y, .int c_latestSpent])), (h_w, .inl (cI, 8, .inl vw_4)), (h_o, .inr (3, [.ref h_ow, .ref h_oq, .int o_length, .int o_spent, .ref h_ob, .int o_many, .int o_at, .int o_isOut, .ref h_or, .int o_values, .int o_failures, .int o_works])), (h_ow, .inl (cI, 8, .inl vw_6))] := hD
          refine lv_icmp_eq (tgt := 515) hx hb d_L_law_120 (by decide) (fun c120 => ?_) (fun c120 => ?_)
          · have hw := hw.1 c120
            refine lv_iinc (v := (x3 + (nI 6))) (lv' := [(3, .int (x3 + (nI 6))), (2, .ref h_o), (1, .ref h_c), (0, .ref b_s)]) hx hb d_L_law_515 hl (k := 0) rfl rfl (by decide) rfl (fun ls hl => ?_)
            refine lv_goto (tgt := 18) hx hb d_L_law_518 (by decide) ?_
            exact ih_18 _ _ _ _ _ _ _ _ _ _ _ _ _ _ _ _ _ _ _ _ _ _ _ _ _ _ hw _ _ _ (gSubP hP [9, 10, 0, 1, 2, 3, 4, 5, 11, 12, 6, 7, 8] rfl) (hD.sub [9, 10, 0, 1, 2, 3, 4, 5, 11, 12, 6, 7, 8] rfl rfl) hS (lv_sub hl [0, 1, 2, 3] rfl)
          · have hw := hw.2 c120
            refine lv_iconst (v := (nI 0)) hx hb d_L_law_123 (by decide) ?_
            exact hw.elim
        · have hw := hw.2 c33_0
          rcases Classical.em (((xs (x3).toNatClampNeg) &&& (nI 15)) = nI 1) with c33_1 | c33_1
          · have hw := hw.1 c33_1
            refine g_sw (nI 1) (tgt := 125) hx hb d_L_law_33 c33_1 (by decide) (by decide) rfl (by decide) ?_
            refine lv_aload_n hx hb d_L_law_125 rfl (lv_at hl 2 rfl) ?_
            refine lv_aload_n hx hb d_L_law_126 rfl (lv_at hl 3 rfl) ?_
            refine lv_iload_n hx hb d_L_law_127 rfl (lv_at hl 0 rfl) ?_
            refine lv_iconst (v := (nI 1)) hx hb d_L_law_128 (by decide) ?_
            refine lv_iadd hx hb d_L_law_129 ?_
            refine va_sld hx hb hX hbl hbA hS hw.1 d_L_law_130 ?_
            have hw := hw.2
            refine g_cVi (wr := [(h_r, .inl (cI, 4, .inl vr)), (h_t, .inr (1, [.ref h_b, .int t_size, .int t_at])), (h_b, .inl (cI, 256, .inl vb)), (h_k, .inr (1, [.ref h_kb, .int k_size, .int k_at])), (h_kb, .inl (cI, 12, .inl vkb)), (h_y, .inr (0, [.int y_hits, .int y_runOuts, .int y_bitsRead, .int y_fewestBits])), (h_o, .inr (3, [.ref h_ow, .ref h_oq, .int o_length, .int o_spent, .ref h_ob, .int o_many, .int o_at, .int o_isOut, .ref h_or, .int o_values, .int o_failures, .int o_works])), (h_ow, .inl (cI, 8, .inl vow)), (h_oq, .inl (cI, 256, .inl voq)), (h_ob, .inl (cI, 256, .inl vob)), (h_or, .inl (cI, 4, .inl vor))]) fx (c_C_weight l D cI h_c h_w h_r h_t h_k h_y c_latestSpent vw (xs ((x3 + (nI 1))).toNatClampNeg) _ hw) mf_C_weight w_81 ⟨rfl, rfl⟩ ⟨Nat.le_of_ble_eq_true rfl, Nat.le_of_ble_eq_true rfl⟩ hN hK hA hP hD hS [0, 1] [2, 3, 4, 5, 6, 7, 8, 9, 10, 11, 12] rfl rfl rfl rfl (by decide) 0 rfl rfl rfl rfl hl.1 (Nat.le_of_ble_eq_true rfl) d_L_law_131 ⟨Nat.le_of_ble_eq_true rfl, Nat.le_of_ble_eq_true rfl⟩ (fun r_7 u H locs hw hP hD hS => ?_)
            try dsimp only at hw
            have hP : va_P D gCl [(h_r, .inl (cI, 4, .inl vr)), (h_t, .inr (1, [.ref h_b, .int t_size, .int t_at])), (h_b, .inl (cI, 256, .inl vb)), (h_k, .inr (1, [.ref h_kb, .int k_size, .int k_at])), (h_kb, .inl (cI, 12, .inl vkb)), (h_y, .inr (0, [.int y_hits, .int y_runOuts, .int y_bitsRead, .int y_fewestBits])), (h_o, .inr (3, [.ref h_ow, .ref h_oq, .int o_length, .int o_spent, .ref h_ob, .int o_many, .int o_at, .int o_isOut, .ref h_or, .int o_values, .int o_failures, .int o_works])), (h_ow, .inl (cI, 8, .inl vow)), (h_oq, .inl (cI, 256, .inl voq)), (h_ob, .inl (cI, 256, .inl vob)), (h_or, .inl (cI, 4, .inl vor)), (h_c, .inr (2, [.ref h_w, .ref h_r, .ref h_t, .ref h_k, .ref h_y, .int c_latestSpent])), (h_w, .inl (cI, 8, .inl vw))] H := hP
            have hD : va_D A [(h_r, .inl (cI, 4, .inl vr)), (h_t, .inr (1, [.ref h_b, .int t_size, .int t_at])), (h_b, .inl (cI, 256, .inl vb)), (h_k, .inr (1, [.ref h_kb, .int k_size, .int k_at])), (h_kb, .inl (cI, 12, .inl vkb)), (h_y, .inr (0, [.int y_hits, .int y_runOuts, .int y_bitsRead, .int y_fewestBits])), (h_o, .inr (3, [.ref h_ow, .ref h_oq, .int o_length, .int o_spent, .ref h_ob, .int o_many, .int o_at, .int o_isOut, .ref h_or, .int o_values, .int o_failures, .int o_works])), (h_ow, .inl (cI, 8, .inl vow)), (h_oq, .inl (cI, 256, .inl voq)), (h_ob, .inl (cI, 256, .inl vob)), (h_or, .inl (cI, 4, .inl vor)), (h_c, .inr (2, [.ref h_w, .ref h_r, .ref h_t, .ref h_k, .ref h_y, .int c_latestSpent])), (h_w, .inl (cI, 8, .inl vw))] := hD
            refine lv_aload_n hx hb d_L_law_134 rfl (lv_at hl 1 rfl) ?_
            refine lv_aload_n hx hb d_L_law_135 rfl (lv_at hl 3 rfl) ?_
            refine lv_iload_n hx hb d_L_law_136 rfl (lv_at hl 0 rfl) ?_
            refine lv_iconst (v := (nI 1)) hx hb d_L_law_137 (by decide) ?_
            refine lv_iadd hx hb d_L_law_138 ?_
            refine va_sld hx hb hX hbl hbA hS hw.1 d_L_law_139 ?_
            have hw := hw.2
            refine g_cVi (wr := [(h_r, .inl (cI, 4, .inl vr)), (h_t, .inr (1, [.ref h_b, .int t_size, .int t_at])), (h_b, .inl (cI, 256, .inl vb)), (h_k, .inr (1, [.ref h_kb, .int k_size, .int k_at])), (h_kb, .inl (cI, 12, .inl vkb)), (h_y, .inr (0, [.int y_hits, .int y_runOuts, .int y_bitsRead, .int y_fewestBits])), (h_oq, .inl (cI, 256, .inl voq)), (h_ob, .inl (cI, 256, .inl vob)), (h_or, .inl (cI, 4, .inl vor)), (h_c, .inr (2, [.ref h_w, .ref h_r, .ref h_t, .ref h_k, .ref h_y, .int c_latestSpent])), (h_w, .inl (cI, 8, .inl vw))]) fx (c_M_weight l D cI h_o h_ow h_oq h_ob h_or o_length o_spent o_many o_at o_isOut o_values o_failures o_works vow (xs ((x3 + (nI 1))).toNatClampNeg) _ hw) mf_M_weight w_268 ⟨rfl, rfl⟩ ⟨Nat.le_of_ble_eq_true rfl, Nat.le_of_ble_eq_true rfl⟩ hN hK hA hP hD hS [6, 7] [0, 1, 2, 3, 4, 5, 8, 9, 10, 11, 12] rfl rfl rfl rfl (by decide) 0 rfl rfl rfl rfl hl.1 (Nat.le_of_ble_eq_true rfl) d_L_law_140 ⟨Nat.le_of_ble_eq_true rfl, Nat.le_of_ble_eq_true rfl⟩ (fun r_8 u H locs hw hP hD hS => ?_)
            try dsimp only at hw
            have hP : va_P D gCl [(h_r, .inl (cI, 4, .inl vr)), (h_t, .inr (1, [.ref h_b, .int t_size, .int t_at])), (h_b, .inl (cI, 256, .inl vb)), (h_k, .inr (1, [.ref h_kb, .int k_size, .int k_at])), (h_kb, .inl (cI, 12, .inl vkb)), (h_y, .inr (0, [.int y_hits, .int y_runOuts, .int y_bitsRead, .int y_fewestBits])), (h_oq, .inl (cI, 256, .inl voq)), (h_ob, .inl (cI, 256, .inl vob)), (h_or, .inl (cI, 4, .inl vor)), (h_c, .inr (2, [.ref h_w, .ref h_r, .ref h_t, .ref h_k, .ref h_y, .int c_latestSpent])), (h_w, .inl (cI, 8, .inl vw)), (h_o, .inr (3, [.ref h_ow, .ref h_oq, .int o_length, .int o_spent, .ref h_ob, .int o_many, .int o_at, .int o_isOut, .ref h_or, .int o_values, .int o_failures, .int o_works])), (h_ow, .inl (cI, 8, .inl vow))] H := hP
            have hD : va_D A [(h_r, .inl (cI, 4, .inl vr)), (h_t, .inr (1, [.ref h_b, .int t_size, .int t_at])), (h_b, .inl (cI, 256, .inl vb)), (h_k, .inr (1, [.ref h_kb, .int k_size, .int k_at])), (h_kb, .inl (cI, 12, .inl vkb)), (h_y, .inr (0, [.int y_hits, .int y_runOuts, .int y_bitsRead, .int y_fewestBits])), (h_oq, .inl (cI, 256, .inl voq)), (h_ob, .inl (cI, 256, .inl vob)), (h_or, .inl (cI, 4, .inl vor)), (h_c, .inr (2, [.ref h_w, .ref h_r, .ref h_t, .ref h_k, .ref h_y, .int c_latestSpent])), (h_w, .inl (cI, 8, .inl vw)), (h_o, .inr (3, [.ref h_ow, .ref h_oq, .int o_length, .int o_spent, .ref h_ob, .int o_many, .int o_at, .int o_isOut, .ref h_or, .int o_values, .int o_failures, .int o_works])), (h_ow, .inl (cI, 8, .inl vow))] := hD
            refine lv_icmp_eq (tgt := 515) hx hb d_L_law_143 (by decide) (fun c143 => ?_) (fun c143 => ?_)
            · have hw := hw.1 c143
              refine lv_iinc (v := (x3 + (nI 6))) (lv' := [(3, .int (x3 + (nI 6))), (2, .ref h_o), (1, .ref h_c), (0, .ref b_s)]) hx hb d_L_law_515 hl (k := 0) rfl rfl (by decide) rfl (fun ls hl => ?_)
              refine lv_goto (tgt := 18) hx hb d_L_law_518 (by decide) ?_
              exact ih_18 _ _ _ _ _ _ _ _ _ _ _ _ _ _ _ _ _ _ _ _ _ _ _ _ _ _ hw _ _ _ (gSubP hP [9, 10, 0, 1, 2, 3, 4, 5, 11, 12, 6, 7, 8] rfl) (hD.sub [9, 10, 0, 1, 2, 3, 4, 5, 11, 12, 6, 7, 8] rfl rfl) hS (lv_sub hl [0, 1, 2, 3] rfl)
            · have hw := hw.2 c143
              refine lv_iconst (v := (nI 0)) hx hb d_L_law_146 (by decide) ?_
              exact hw.elim
          · have hw := hw.2 c33_1
            rcases Classical.em (((xs (x3).toNatClampNeg) &&& (nI 15)) = nI 2) with c33_2 | c33_2
            · have hw := hw.1 c33_2
              refine g_sw (nI 2) (tgt := 148) hx hb d_L_law_33 c33_2 (by decide) (by decide) rfl (by decide) ?_
              refine lv_aload_n hx hb d_L_law_148 rfl (lv_at hl 2 rfl) ?_
              refine lv_aload_n hx hb d_L_law_149 rfl (lv_at hl 3 rfl) ?_
              refine lv_iload_n hx hb d_L_law_150 rfl (lv_at hl 0 rfl) ?_
              refine lv_iconst (v := (nI 1)) hx hb d_L_law_151 (by decide) ?_
              refine lv_iadd hx hb d_L_law_152 ?_
              refine va_sld hx hb hX hbl hbA hS hw.1 d_L_law_153 ?_
              have hw := hw.2
              refine lv_aload_n hx hb d_L_law_154 rfl (lv_at hl 3 rfl) ?_
              refine lv_iload_n hx hb d_L_law_155 rfl (lv_at hl 0 rfl) ?_
              refine lv_iconst (v := (nI 2)) hx hb d_L_law_156 (by decide) ?_
              refine lv_iadd hx hb d_L_law_157 ?_
              refine va_sld hx hb hX hbl hbA hS hw.1 d_L_law_158 ?_
              have hw := hw.2
              refine g_cVi (wr := [(h_w, .inl (cI, 8, .inl vw)), (h_r, .inl (cI, 4, .inl vr)), (h_k, .inr (1, [.ref h_kb, .int k_size, .int k_at])), (h_kb, .inl (cI, 12, .inl vkb)), (h_y, .inr (0, [.int y_hits, .int y_runOuts, .int y_bitsRead, .int y_fewestBits])), (h_o, .inr (3, [.ref h_ow, .ref h_oq, .int o_length, .int o_spent, .ref h_ob, .int o_many, .int o_at, .int o_isOut, .ref h_or, .int o_values, .int o_failures, .int o_works])), (h_ow, .inl (cI, 8, .inl vow)), (h_oq, .inl (cI, 256, .inl voq)), (h_ob, .inl (cI, 256, .inl vob)), (h_or, .inl (cI, 4, .inl vor))]) fx (c_C_feed l D cI h_c h_t h_b h_w h_r h_k h_y 256 c_latestSpent t_size t_at vb (xs ((x3 + (nI 1))).toNatClampNeg) (xs ((x3 + (nI 2))).toNatClampNeg) _ hw) mf_C_feed w_85 ⟨rfl, rfl⟩ ⟨Nat.le_of_ble_eq_true rfl, Nat.le_of_ble_eq_true rfl⟩ hN hK hA hP hD hS [0, 3, 4] [1, 2, 5, 6, 7, 8, 9, 10, 11, 12] rfl rfl rfl rfl (by decide) 0 rfl rfl rfl rfl hl.1 (Nat.le_of_ble_eq_true rfl) d_L_law_159 ⟨Nat.le_of_ble_eq_true rfl, Nat.le_of_ble_eq_true rfl⟩ (fun r_9 u H locs hw hP hD hS => ?_)
              obtain ⟨tsize_10, vb_11⟩ := u
              try dsimp only at hw
              have hP : va_P D gCl [(h_w, .inl (cI, 8, .inl vw)), (h_r, .inl (cI, 4, .inl vr)), (h_k, .inr (1, [.ref h_kb, .int k_size, .int k_at])), (h_kb, .inl (cI, 12, .inl vkb)), (h_y, .inr (0, [.int y_hits, .int y_runOuts, .int y_bitsRead, .int y_fewestBits])), (h_o, .inr (3, [.ref h_ow, .ref h_oq, .int o_length, .int o_spent, .ref h_ob, .int o_many, .int o_at, .int o_isOut, .ref h_or, .int o_values, .int o_failures, .int o_works])), (h_ow, .inl (cI, 8, .inl vow)), (h_oq, .inl (cI, 256, .inl voq)), (h_ob, .inl (cI, 256, .inl vob)), (h_or, .inl (cI, 4, .inl vor)), (h_c, .inr (2, [.ref h_w, .ref h_r, .ref h_t, .ref h_k, .ref h_y, .int c_latestSpent])), (h_t, .inr (1, [.ref h_b, .int tsize_10, .int t_at])), (h_b, .inl (cI, 256, .inl vb_11))] H := hP
              have hD : va_D A [(h_w, .inl (cI, 8, .inl vw)), (h_r, .inl (cI, 4, .inl vr)), (h_k, .inr (1, [.ref h_kb, .int k_size, .int k_at])), (h_kb, .inl (cI, 12, .inl vkb)), (h_y, .inr (0, [.int y_hits, .int y_runOuts, .int y_bitsRead, .int y_fewestBits])), (h_o, .inr (3, [.ref h_ow, .ref h_oq, .int o_length, .int o_spent, .ref h_ob, .int o_many, .int o_at, .int o_isOut, .ref h_or, .int o_values, .int o_failures, .int o_works])), (h_ow, .inl (cI, 8, .inl vow)), (h_oq, .inl (cI, 256, .inl voq)), (h_ob, .inl (cI, 256, .inl vob)), (h_or, .inl (cI, 4, .inl vor)), (h_c, .inr (2, [.ref h_w, .ref h_r, .ref h_t, .ref h_k, .ref h_y, .int c_latestSpent])), (h_t, .inr (1, [.ref h_b, .int tsize_10, .int t_at])), (h_b, .inl (cI, 256, .inl vb_11))] := hD
              refine lv_aload_n hx hb d_L_law_162 rfl (lv_at hl 1 rfl) ?_
              refine lv_aload_n hx hb d_L_law_163 rfl (lv_at hl 3 rfl) ?_
              refine lv_iload_n hx hb d_L_law_164 rfl (lv_at hl 0 rfl) ?_
              refine lv_iconst (v := (nI 1)) hx hb d_L_law_165 (by decide) ?_
              refine lv_iadd hx hb d_L_law_166 ?_
              refine va_sld hx hb hX hbl hbA hS hw.1 d_L_law_167 ?_
              have hw := hw.2
              refine lv_aload_n hx hb d_L_law_168 rfl (lv_at hl 3 rfl) ?_
              refine lv_iload_n hx hb d_L_law_169 rfl (lv_at hl 0 rfl) ?_
              refine lv_iconst (v := (nI 2)) hx hb d_L_law_170 (by decide) ?_
              refine lv_iadd hx hb d_L_law_171 ?_
              refine va_sld hx hb hX hbl hbA hS hw.1 d_L_law_172 ?_
              have hw := hw.2
              refine g_cVi (wr := [(h_w, .inl (cI, 8, .inl vw)), (h_r, .inl (cI, 4, .inl vr)), (h_k, .inr (1, [.ref h_kb, .int k_size, .int k_at])), (h_kb, .inl (cI, 12, .inl vkb)), (h_y, .inr (0, [.int y_hits, .int y_runOuts, .int y_bitsRead, .int y_fewestBits])), (h_ow, .inl (cI, 8, .inl vow)), (h_ob, .inl (cI, 256, .inl vob)), (h_or, .inl (cI, 4, .inl vor)), (h_c, .inr (2, [.ref h_w, .ref h_r, .ref h_t, .ref h_k, .ref h_y, .int c_latestSpent])), (h_t, .inr (1, [.ref h_b, .int tsize_10, .int t_at])), (h_b, .inl (cI, 256, .inl vb_11))]) fx (c_M_feed l D cI h_o h_oq h_ow h_ob h_or o_length o_spent o_many o_at o_isOut o_values o_failures o_works voq (xs ((x3 + (nI 1))).toNatClampNeg) (xs ((x3 + (nI 2))).toNatClampNeg) _ hw) mf_M_feed w_272 ⟨rfl, rfl⟩ ⟨Nat.le_of_ble_eq_true rfl, Nat.le_of_ble_eq_true rfl⟩ hN hK hA hP hD hS [5, 7] [0, 1, 2, 3, 4, 6, 8, 9, 10, 11, 12] rfl rfl rfl rfl (by decide) 0 rfl rfl rfl rfl hl.1 (Nat.le_of_ble_eq_true rfl) d_L_law_173 ⟨Nat.le_of_ble_eq_true rfl, Nat.le_of_ble_eq_true rfl⟩ (fun r_12 u H locs hw hP hD hS => ?_)
              obtain ⟨olength_13, vq_14⟩ := u
              try dsimp only at hw
              have hP : va_P D gCl [(h_w, .inl (cI, 8, .inl vw)), (h_r, .inl (cI, 4, .inl vr)), (h_k, .inr (1, [.ref h_kb, .int k_size, .int k_at])), (h_kb, .inl (cI, 12, .inl vkb)), (h_y, .inr (0, [.int y_hits, .int y_runOuts, .int y_bitsRead, .int y_fewestBits])), (h_ow, .inl (cI, 8, .inl vow)), (h_ob, .inl (cI, 256, .inl vob)), (h_or, .inl (cI, 4, .inl vor)), (h_c, .inr (2, [.ref h_w, .ref h_r, .ref h_t, .ref h_k, .ref h_y, .int c_latestSpent])), (h_t, .inr (1, [.ref h_b, .int tsize_10, .int t_at])), (h_b, .inl (cI, 256, .inl vb_11)), (h_o, .inr (3, [.ref h_ow, .ref h_oq, .int olength_13, .int o_spent, .ref h_ob, .int o_many, .int o_at, .int o_isOut, .ref h_or, .int o_values, .int o_failures, .int o_works])), (h_oq, .inl (cI, 256, .inl vq_14))] H := hP
              have hD : va_D A [(h_w, .inl (cI, 8, .inl vw)), (h_r, .inl (cI, 4, .inl vr)), (h_k, .inr (1, [.ref h_kb, .int k_size, .int k_at])), (h_kb, .inl (cI, 12, .inl vkb)), (h_y, .inr (0, [.int y_hits, .int y_runOuts, .int y_bitsRead, .int y_fewestBits])), (h_ow, .inl (cI, 8, .inl vow)), (h_ob, .inl (cI, 256, .inl vob)), (h_or, .inl (cI, 4, .inl vor)), (h_c, .inr (2, [.ref h_w, .ref h_r, .ref h_t, .ref h_k, .ref h_y, .int c_latestSpent])), (h_t, .inr (1, [.ref h_b, .int tsize_10, .int t_at])), (h_b, .inl (cI, 256, .inl vb_11)), (h_o, .inr (3, [.ref h_ow, .ref h_oq, .int olength_13, .int o_spent, .ref h_ob, .int o_many, .int o_at, .int o_isOut, .ref h_or, .int o_values, .int o_failures, .int o_works])), (h_oq, .inl (cI, 256, .inl vq_14))] := hD
              refine lv_icmp_eq (tgt := 515) hx hb d_L_law_176 (by decide) (fun c176 => ?_) (fun c176 => ?_)
              · have hw := hw.1 c176
                refine lv_iinc (v := (x3 + (nI 6))) (lv' := [(3, .int (x3 + (nI 6))), (2, .ref h_o), (1, .ref h_c), (0, .ref b_s)]) hx hb d_L_law_515 hl (k := 0) rfl rfl (by decide) rfl (fun ls hl => ?_)
                refine lv_goto (tgt := 18) hx hb d_L_law_518 (by decide) ?_
                exact ih_18 _ _ _ _ _ _ _ _ _ _ _ _ _ _ _ _ _ _ _ _ _ _ _ _ _ _ hw _ _ _ (gSubP hP [8, 0, 1, 9, 10, 2, 3, 4, 11, 5, 12, 6, 7] rfl) (hD.sub [8, 0, 1, 9, 10, 2, 3, 4, 11, 5, 12, 6, 7] rfl rfl) hS (lv_sub hl [0, 1, 2, 3] rfl)
              · have hw := hw.2 c176
                refine lv_iconst (v := (nI 0)) hx hb d_L_law_179 (by decide) ?_
                exact hw.elim
            · have hw := hw.2 c33_2
              rcases Classical.em (((xs (x3).toNatClampNeg) &&& (nI 15)) = nI 3) with c33_3 | c33_3
              · have hw := hw.1 c33_3
                refine g_sw (nI 3) (tgt := 181) hx hb d_L_law_33 c33_3 (by decide) (by decide) rfl (by decide) ?_
                refine lv_aload_n hx hb d_L_law_181 rfl (lv_at hl 2 rfl) ?_
                refine g_cVi (wr := [(h_w, .inl (cI, 8, .inl vw)), (h_r, .inl (cI, 4, .inl vr)), (h_k, .inr (1, [.ref h_kb, .int k_size, .int k_at])), (h_kb, .inl (cI, 12, .inl vkb)), (h_y, .inr (0, [.int y_hits, .int y_runOuts, .int y_bitsRead, .int y_fewestBits])), (h_o, .inr (3, [.ref h_ow, .ref h_oq, .int o_length, .int o_spent, .ref h_ob, .int o_many, .int o_at, .int o_isOut, .ref h_or, .int o_values, .int o_failures, .int o_works])), (h_ow, .inl (cI, 8, .inl vow)), (h_oq, .inl (cI, 256, .inl voq)), (h_ob, .inl (cI, 256, .inl vob)), (h_or, .inl (cI, 4, .inl vor))]) fx (c_C_left l D cI h_c h_t h_b h_w h_r h_k h_y 256 c_latestSpent t_size t_at vb _ hw) mf_C_left w_97 ⟨rfl, rfl⟩ ⟨Nat.le_of_ble_eq_true rfl, Nat.le_of_ble_eq_true rfl⟩ hN hK hA hP hD hS [0, 3, 4] [1, 2, 5, 6, 7, 8, 9, 10, 11, 12] rfl rfl rfl rfl (by decide) 0 rfl rfl rfl rfl hl.1 (Nat.le_of_ble_eq_true rfl) d_L_law_182 ⟨Nat.le_of_ble_eq_true rfl, Nat.le_of_ble_eq_true rfl⟩ (fun r_15 u H locs hw hP hD hS => ?_)
                try dsimp only at hw
                have hP : va_P D gCl [(h_w, .inl (cI, 8, .inl vw)), (h_r, .inl (cI, 4, .inl vr)), (h_k, .inr (1, [.ref h_kb, .int k_size, .int k_at])), (h_kb, .inl (cI, 12, .inl vkb)), (h_y, .inr (0, [.int y_hits, .int y_runOuts, .int y_bitsRead, .int y_fewestBits])), (h_o, .inr (3, [.ref h_ow, .ref h_oq, .int o_length, .int o_spent, .ref h_ob, .int o_many, .int o_at, .int o_isOut, .ref h_or, .int o_values, .int o_failures, .int o_works])), (h_ow, .inl (cI, 8, .inl vow)), (h_oq, .inl (cI, 256, .inl voq)), (h_ob, .inl (cI, 256, .inl vob)), (h_or, .inl (cI, 4, .inl vor)), (h_c, .inr (2, [.ref h_w, .ref h_r, .ref h_t, .ref h_k, .ref h_y, .int c_latestSpent])), (h_t, .inr (1, [.ref h_b, .int t_size, .int t_at])), (h_b, .inl (cI, 256, .inl vb))] H := hP
                have hD : va_D A [(h_w, .inl (cI, 8, .inl vw)), (h_r, .inl (cI, 4, .inl vr)), (h_k, .inr (1, [.ref h_kb, .int k_size, .int k_at])), (h_kb, .inl (cI, 12, .inl vkb)), (h_y, .inr (0, [.int y_hits, .int y_runOuts, .int y_bitsRead, .int y_fewestBits])), (h_o, .inr (3, [.ref h_ow, .ref h_oq, .int o_length, .int o_spent, .ref h_ob, .int o_many, .int o_at, .int o_isOut, .ref h_or, .int o_values, .int o_failures, .int o_works])), (h_ow, .inl (cI, 8, .inl vow)), (h_oq, .inl (cI, 256, .inl voq)), (h_ob, .inl (cI, 256, .inl vob)), (h_or, .inl (cI, 4, .inl vor)), (h_c, .inr (2, [.ref h_w, .ref h_r, .ref h_t, .ref h_k, .ref h_y, .int c_latestSpent])), (h_t, .inr (1, [.ref h_b, .int t_size, .int t_at])), (h_b, .inl (cI, 256, .inl vb))] := hD
                refine lv_aload_n hx hb d_L_law_185 rfl (lv_at hl 1 rfl) ?_
                refine g_cVi (wr := [(h_w, .inl (cI, 8, .inl vw)), (h_r, .inl (cI, 4, .inl vr)), (h_k, .inr (1, [.ref h_kb, .int k_size, .int k_at])), (h_kb, .inl (cI, 12, .inl vkb)), (h_y, .inr (0, [.int y_hits, .int y_runOuts, .int y_bitsRead, .int y_fewestBits])), (h_ow, .inl (cI, 8, .inl vow)), (h_oq, .inl (cI, 256, .inl voq)), (h_ob, .inl (cI, 256, .inl vob)), (h_or, .inl (cI, 4, .inl vor)), (h_c, .inr (2, [.ref h_w, .ref h_r, .ref h_t, .ref h_k, .ref h_y, .int c_latestSpent])), (h_t, .inr (1, [.ref h_b, .int t_size, .int t_at])), (h_b, .inl (cI, 256, .inl vb))]) fx (c_M_left l D cI h_o h_ow h_oq h_ob h_or o_length o_spent o_many o_at o_isOut o_values o_failures o_works _ hw) mf_M_left w_276 ⟨rfl, rfl⟩ ⟨Nat.le_of_ble_eq_true rfl, Nat.le_of_ble_eq_true rfl⟩ hN hK hA hP hD hS [5] [0, 1, 2, 3, 4, 6, 7, 8, 9, 10, 11, 12] rfl rfl rfl rfl (by decide) 0 rfl rfl rfl rfl hl.1 (Nat.le_of_ble_eq_true rfl) d_L_law_186 ⟨Nat.le_of_ble_eq_true rfl, Nat.le_of_ble_eq_true rfl⟩ (fun r_16 u H locs hw hP hD hS => ?_)
                try dsimp only at hw
                have hP : va_P D gCl [(h_w, .inl (cI, 8, .inl vw)), (h_r, .inl (cI, 4, .inl vr)), (h_k, .inr (1, [.ref h_kb, .int k_size, .int k_at])), (h_kb, .inl (cI, 12, .inl vkb)), (h_y, .inr (0, [.int y_hits, .int y_runOuts, .int y_bitsRead, .int y_fewestBits])), (h_ow, .inl (cI, 8, .inl vow)), (h_oq, .inl (cI, 256, .inl voq)), (h_ob, .inl (cI, 256, .inl vob)), (h_or, .inl (cI, 4, .inl vor)), (h_c, .inr (2, [.ref h_w, .ref h_r, .ref h_t, .ref h_k, .ref h_y, .int c_latestSpent])), (h_t, .inr (1, [.ref h_b, .int t_size, .int t_at])), (h_b, .inl (cI, 256, .inl vb)), (h_o, .inr (3, [.ref h_ow, .ref h_oq, .int o_length, .int o_spent, .ref h_ob, .int o_many, .int o_at, .int o_isOut, .ref h_or, .int o_values, .int o_failures, .int o_works]))] H := hP
                have hD : va_D A [(h_w, .inl (cI, 8, .inl vw)), (h_r, .inl (cI, 4, .inl vr)), (h_k, .inr (1, [.ref h_kb, .int k_size, .int k_at])), (h_kb, .inl (cI, 12, .inl vkb)), (h_y, .inr (0, [.int y_hits, .int y_runOuts, .int y_bitsRead, .int y_fewestBits])), (h_ow, .inl (cI, 8, .inl vow)), (h_oq, .inl (cI, 256, .inl voq)), (h_ob, .inl (cI, 256, .inl vob)), (h_or, .inl (cI, 4, .inl vor)), (h_c, .inr (2, [.ref h_w, .ref h_r, .ref h_t, .ref h_k, .ref h_y, .int c_latestSpent])), (h_t, .inr (1, [.ref h_b, .int t_size, .int t_at])), (h_b, .inl (cI, 256, .inl vb)), (h_o, .inr (3, [.ref h_ow, .ref h_oq, .int o_length, .int o_spent, .ref h_ob, .int o_many, .int o_at, .int o_isOut, .ref h_or, .int o_values, .int o_failures, .int o_works]))] := hD
                refine lv_icmp_eq (tgt := 515) hx hb d_L_law_189 (by decide) (fun c189 => ?_) (fun c189 => ?_)
                · have hw := hw.1 c189
                  refine lv_iinc (v := (x3 + (nI 6))) (lv' := [(3, .int (x3 + (nI 6))), (2, .ref h_o), (1, .ref h_c), (0, .ref b_s)]) hx hb d_L_law_515 hl (k := 0) rfl rfl (by decide) rfl (fun ls hl => ?_)
                  refine lv_goto (tgt := 18) hx hb d_L_law_518 (by decide) ?_
                  exact ih_18 _ _ _ _ _ _ _ _ _ _ _ _ _ _ _ _ _ _ _ _ _ _ _ _ _ _ hw _ _ _ (gSubP hP [9, 0, 1, 10, 11, 2, 3, 4, 12, 5, 6, 7, 8] rfl) (hD.sub [9, 0, 1, 10, 11, 2, 3, 4, 12, 5, 6, 7, 8] rfl rfl) hS (lv_sub hl [0, 1, 2, 3] rfl)
                · have hw := hw.2 c189
                  refine lv_iconst (v := (nI 0)) hx hb d_L_law_192 (by decide) ?_
                  exact hw.elim
              · have hw := hw.2 c33_3
                rcases Classical.em (((xs (x3).toNatClampNeg) &&& (nI 15)) = nI 4) with c33_4 | c33_4
                · have hw := hw.1 c33_4
                  refine g_sw (nI 4) (tgt := 194) hx hb d_L_law_33 c33_4 (by decide) (by decide) rfl (by decide) ?_
                  refine lv_aload_n hx hb d_L_law_194 rfl (lv_at hl 2 rfl) ?_
                  refine lv_aload_n hx hb d_L_law_195 rfl (lv_at hl 3 rfl) ?_
                  refine lv_iload_n hx hb d_L_law_196 rfl (lv_at hl 0 rfl) ?_
                  refine lv_iconst (v := (nI 1)) hx hb d_L_law_197 (by decide) ?_
                  refine lv_iadd hx hb d_L_law_198 ?_
                  refine va_sld hx hb hX hbl hbA hS hw.1 d_L_law_199 ?_
                  have hw := hw.2
                  refine lv_aload_n hx hb d_L_law_200 rfl (lv_at hl 3 rfl) ?_
                  refine lv_iload_n hx hb d_L_law_201 rfl (lv_at hl 0 rfl) ?_
                  refine lv_iconst (v := (nI 2)) hx hb d_L_law_202 (by decide) ?_
                  refine lv_iadd hx hb d_L_law_203 ?_
                  refine va_sld hx hb hX hbl hbA hS hw.1 d_L_law_204 ?_
                  have hw := hw.2
                  refine lv_aload_n hx hb d_L_law_205 rfl (lv_at hl 3 rfl) ?_
                  refine lv_iload_n hx hb d_L_law_206 rfl (lv_at hl 0 rfl) ?_
                  refine lv_iconst (v := (nI 3)) hx hb d_L_law_207 (by decide) ?_
                  refine lv_iadd hx hb d_L_law_208 ?_
                  refine va_sld hx hb hX hbl hbA hS hw.1 d_L_law_209 ?_
                  have hw := hw.2
                  refine g_cVi (wr := [(h_r, .inl (cI, 4, .inl vr)), (h_t, .inr (1, [.ref h_b, .int t_size, .int t_at])), (h_b, .inl (cI, 256, .inl vb)), (h_k, .inr (1, [.ref h_kb, .int k_size, .int k_at])), (h_kb, .inl (cI, 12, .inl vkb)), (h_y, .inr (0, [.int y_hits, .int y_runOuts, .int y_bitsRead, .int y_fewestBits])), (h_o, .inr (3, [.ref h_ow, .ref h_oq, .int o_length, .int o_spent, .ref h_ob, .int o_many, .int o_at, .int o_isOut, .ref h_or, .int o_values, .int o_failures, .int o_works])), (h_ow, .inl (cI, 8, .inl vow)), (h_oq, .inl (cI, 256, .inl voq)), (h_ob, .inl (cI, 256, .inl vob)), (h_or, .inl (cI, 4, .inl vor))]) fx (c_C_isOne l D cI h_c h_w h_r h_t h_k h_y c_latestSpent vw (xs ((x3 + (nI 1))).toNatClampNeg) (xs ((x3 + (nI 2))).toNatClampNeg) (xs ((x3 + (nI 3))).toNatClampNeg) _ hw) mf_C_isOne w_101 ⟨rfl, rfl⟩ ⟨Nat.le_of_ble_eq_true rfl, Nat.le_of_ble_eq_true rfl⟩ hN hK hA hP hD hS [0, 1] [2, 3, 4, 5, 6, 7, 8, 9, 10, 11, 12] rfl rfl rfl rfl (by decide) 0 rfl rfl rfl rfl hl.1 (Nat.le_of_ble_eq_true rfl) d_L_law_210 ⟨Nat.le_of_ble_eq_true rfl, Nat.le_of_ble_eq_true rfl⟩ (fun r_17 u H locs hw hP hD hS => ?_)
                  try dsimp only at hw
                  have hP : va_P D gCl [(h_r, .inl (cI, 4, .inl vr)), (h_t, .inr (1, [.ref h_b, .int t_size, .int t_at])), (h_b, .inl (cI, 256, .inl vb)), (h_k, .inr (1, [.ref h_kb, .int k_size, .int k_at])), (h_kb, .inl (cI, 12, .inl vkb)), (h_y, .inr (0, [.int y_hits, .int y_runOuts, .int y_bitsRead, .int y_fewestBits])), (h_o, .inr (3, [.ref h_ow, .ref h_oq, .int o_length, .int o_spent, .ref h_ob, .int o_many, .int o_at, .int o_isOut, .ref h_or, .int o_values, .int o_failures, .int o_works])), (h_ow, .inl (cI, 8, .inl vow)), (h_oq, .inl (cI, 256, .inl voq)), (h_ob, .inl (cI, 256, .inl vob)), (h_or, .inl (cI, 4, .inl vor)), (h_c, .inr (2, [.ref h_w, .ref h_r, .ref h_t, .ref h_k, .ref h_y, .int c_latestSpent])), (h_w, .inl (cI, 8, .inl vw))] H := hP
                  have hD : va_D A [(h_r, .inl (cI, 4, .inl vr)), (h_t, .inr (1, [.ref h_b, .int t_size, .int t_at])), (h_b, .inl (cI, 256, .inl vb)), (h_k, .inr (1, [.ref h_kb, .int k_size, .int k_at])), (h_kb, .inl (cI, 12, .inl vkb)), (h_y, .inr (0, [.int y_hits, .int y_runOuts, .int y_bitsRead, .int y_fewestBits])), (h_o, .inr (3, [.ref h_ow, .ref h_oq, .int o_length, .int o_spent, .ref h_ob, .int o_many, .int o_at, .int o_isOut, .ref h_or, .int o_values, .int o_failures, .int o_works])), (h_ow, .inl (cI, 8, .inl vow)), (h_oq, .inl (cI, 256, .inl voq)), (h_ob, .inl (cI, 256, .inl vob)), (h_or, .inl (cI, 4, .inl vor)), (h_c, .inr (2, [.ref h_w, .ref h_r, .ref h_t, .ref h_k, .ref h_y, .int c_latestSpent])), (h_w, .inl (cI, 8, .inl vw))] := hD
                  refine lv_aload_n hx hb d_L_law_213 rfl (lv_at hl 1 rfl) ?_
                  refine lv_aload_n hx hb d_L_law_214 rfl (lv_at hl 3 rfl) ?_
                  refine lv_iload_n hx hb d_L_law_215 rfl (lv_at hl 0 rfl) ?_
                  refine lv_iconst (v := (nI 1)) hx hb d_L_law_216 (by decide) ?_
                  refine lv_iadd hx hb d_L_law_217 ?_
                  refine va_sld hx hb hX hbl hbA hS hw.1 d_L_law_218 ?_
                  have hw := hw.2
                  refine lv_aload_n hx hb d_L_law_219 rfl (lv_at hl 3 rfl) ?_
                  refine lv_iload_n hx hb d_L_law_220 rfl (lv_at hl 0 rfl) ?_
                  refine lv_iconst (v := (nI 2)) hx hb d_L_law_221 (by decide) ?_
                  refine lv_iadd hx hb d_L_law_222 ?_
                  refine va_sld hx hb hX hbl hbA hS hw.1 d_L_law_223 ?_
                  have hw := hw.2
                  refine lv_aload_n hx hb d_L_law_224 rfl (lv_at hl 3 rfl) ?_
                  refine lv_iload_n hx hb d_L_law_225 rfl (lv_at hl 0 rfl) ?_
                  refine lv_iconst (v := (nI 3)) hx hb d_L_law_226 (by decide) ?_
                  refine lv_iadd hx hb d_L_law_227 ?_
                  refine va_sld hx hb hX hbl hbA hS hw.1 d_L_law_228 ?_
                  have hw := hw.2
                  refine g_cVi (wr := [(h_r, .inl (cI, 4, .inl vr)), (h_t, .inr (1, [.ref h_b, .int t_size, .int t_at])), (h_b, .inl (cI, 256, .inl vb)), (h_k, .inr (1, [.ref h_kb, .int k_size, .int k_at])), (h_kb, .inl (cI, 12, .inl vkb)), (h_y, .inr (0, [.int y_hits, .int y_runOuts, .int y_bitsRead, .int y_fewestBits])), (h_oq, .inl (cI, 256, .inl voq)), (h_ob, .inl (cI, 256, .inl vob)), (h_or, .inl (cI, 4, .inl vor)), (h_c, .inr (2, [.ref h_w, .ref h_r, .ref h_t, .ref h_k, .ref h_y, .int c_latestSpent])), (h_w, .inl (cI, 8, .inl vw))]) fx (c_M_isOne l D cI h_o h_ow h_oq h_ob h_or o_length o_spent o_many o_at o_isOut o_values o_failures o_works vow (xs ((x3 + (nI 1))).toNatClampNeg) (xs ((x3 + (nI 2))).toNatClampNeg) (xs ((x3 + (nI 3))).toNatClampNeg) _ hw) mf_M_isOne w_280 ⟨rfl, rfl⟩ ⟨Nat.le_of_ble_eq_true rfl, Nat.le_of_ble_eq_true rfl⟩ hN hK hA hP hD hS [6, 7] [0, 1, 2, 3, 4, 5, 8, 9, 10, 11, 12] rfl rfl rfl rfl (by decide) 0 rfl rfl rfl rfl hl.1 (Nat.le_of_ble_eq_true rfl) d_L_law_229 ⟨Nat.le_of_ble_eq_true rfl, Nat.le_of_ble_eq_true rfl⟩ (fun r_18 u H locs hw hP hD hS => ?_)
                  try dsimp only at hw
                  have hP : va_P D gCl [(h_r, .inl (cI, 4, .inl vr)), (h_t, .inr (1, [.ref h_b, .int t_size, .int t_at])), (h_b, .inl (cI, 256, .inl vb)), (h_k, .inr (1, [.ref h_kb, .int k_size, .int k_at])), (h_kb, .inl (cI, 12, .inl vkb)), (h_y, .inr (0, [.int y_hits, .int y_runOuts, .int y_bitsRead, .int y_fewestBits])), (h_oq, .inl (cI, 256, .inl voq)), (h_ob, .inl (cI, 256, .inl vob)), (h_or, .inl (cI, 4, .inl vor)), (h_c, .inr (2, [.ref h_w, .ref h_r, .ref h_t, .ref h_k, .ref h_y, .int c_latestSpent])), (h_w, .inl (cI, 8, .inl vw)), (h_o, .inr (3, [.ref h_ow, .ref h_oq, .int o_length, .int o_spent, .ref h_ob, .int o_many, .int o_at, .int o_isOut, .ref h_or, .int o_values, .int o_failures, .int o_works])), (h_ow, .inl (cI, 8, .inl vow))] H := hP
                  have hD : va_D A [(h_r, .inl (cI, 4, .inl vr)), (h_t, .inr (1, [.ref h_b, .int t_size, .int t_at])), (h_b, .inl (cI, 256, .inl vb)), (h_k, .inr (1, [.ref h_kb, .int k_size, .int k_at])), (h_kb, .inl (cI, 12, .inl vkb)), (h_y, .inr (0, [.int y_hits, .int y_runOuts, .int y_bitsRead, .int y_fewestBits])), (h_oq, .inl (cI, 256, .inl voq)), (h_ob, .inl (cI, 256, .inl vob)), (h_or, .inl (cI, 4, .inl vor)), (h_c, .inr (2, [.ref h_w, .ref h_r, .ref h_t, .ref h_k, .ref h_y, .int c_latestSpent])), (h_w, .inl (cI, 8, .inl vw)), (h_o, .inr (3, [.ref h_ow, .ref h_oq, .int o_length, .int o_spent, .ref h_ob, .int o_many, .int o_at, .int o_isOut, .ref h_or, .int o_values, .int o_failures, .int o_works])), (h_ow, .inl (cI, 8, .inl vow))] := hD
                  refine lv_icmp_eq (tgt := 515) hx hb d_L_law_232 (by decide) (fun c232 => ?_) (fun c232 => ?_)
                  · have hw := hw.1 c232
                    refine lv_iinc (v := (x3 + (nI 6))) (lv' := [(3, .int (x3 + (nI 6))), (2, .ref h_o), (1, .ref h_c), (0, .ref b_s)]) hx hb d_L_law_515 hl (k := 0) rfl rfl (by decide) rfl (fun ls hl => ?_)
                    refine lv_goto (tgt := 18) hx hb d_L_law_518 (by decide) ?_
                    exact ih_18 _ _ _ _ _ _ _ _ _ _ _ _ _ _ _ _ _ _ _ _ _ _ _ _ _ _ hw _ _ _ (gSubP hP [9, 10, 0, 1, 2, 3, 4, 5, 11, 12, 6, 7, 8] rfl) (hD.sub [9, 10, 0, 1, 2, 3, 4, 5, 11, 12, 6, 7, 8] rfl rfl) hS (lv_sub hl [0, 1, 2, 3] rfl)
                  · have hw := hw.2 c232
                    refine lv_iconst (v := (nI 0)) hx hb d_L_law_235 (by decide) ?_
                    exact hw.elim
                · have hw := hw.2 c33_4
                  rcases Classical.em (((xs (x3).toNatClampNeg) &&& (nI 15)) = nI 5) with c33_5 | c33_5
                  · have hw := hw.1 c33_5
                    refine g_sw (nI 5) (tgt := 237) hx hb d_L_law_33 c33_5 (by decide) (by decide) rfl (by decide) ?_
                    refine lv_aload_n hx hb d_L_law_237 rfl (lv_at hl 2 rfl) ?_
                    refine lv_aload_n hx hb d_L_law_238 rfl (lv_at hl 3 rfl) ?_
                    refine lv_iload_n hx hb d_L_law_239 rfl (lv_at hl 0 rfl) ?_
                    refine lv_iconst (v := (nI 1)) hx hb d_L_law_240 (by decide) ?_
                    refine lv_iadd hx hb d_L_law_241 ?_
                    refine va_sld hx hb hX hbl hbA hS hw.1 d_L_law_242 ?_
                    have hw := hw.2
                    refine lv_aload_n hx hb d_L_law_243 rfl (lv_at hl 3 rfl) ?_
                    refine lv_iload_n hx hb d_L_law_244 rfl (lv_at hl 0 rfl) ?_
                    refine lv_iconst (v := (nI 2)) hx hb d_L_law_245 (by decide) ?_
                    refine lv_iadd hx hb d_L_law_246 ?_
                    refine va_sld hx hb hX hbl hbA hS hw.1 d_L_law_247 ?_
                    have hw := hw.2
                    refine lv_aload_n hx hb d_L_law_248 rfl (lv_at hl 3 rfl) ?_
                    refine lv_iload_n hx hb d_L_law_249 rfl (lv_at hl 0 rfl) ?_
                    refine lv_iconst (v := (nI 3)) hx hb d_L_law_250 (by decide) ?_
                    refine lv_iadd hx hb d_L_law_251 ?_
                    refine va_sld hx hb hX hbl hbA hS hw.1 d_L_law_252 ?_
                    have hw := hw.2
                    refine g_cVi (wr := [(h_k, .inr (1, [.ref h_kb, .int k_size, .int k_at])), (h_kb, .inl (cI, 12, .inl vkb)), (h_y, .inr (0, [.int y_hits, .int y_runOuts, .int y_bitsRead, .int y_fewestBits])), (h_o, .inr (3, [.ref h_ow, .ref h_oq, .int o_length, .int o_spent, .ref h_ob, .int o_many, .int o_at, .int o_isOut, .ref h_or, .int o_values, .int o_failures, .int o_works])), (h_ow, .inl (cI, 8, .inl vow)), (h_oq, .inl (cI, 256, .inl voq)), (h_ob, .inl (cI, 256, .inl vob)), (h_or, .inl (cI, 4, .inl vor))]) fx (c_C_draw l D cI h_c h_w h_r h_t h_b h_k h_y 256 c_latestSpent vw vr t_size t_at vb (xs ((x3 + (nI 1))).toNatClampNeg) (xs ((x3 + (nI 2))).toNatClampNeg) (xs ((x3 + (nI 3))).toNatClampNeg) _ hw) mf_C_draw w_109 ⟨rfl, rfl⟩ ⟨Nat.le_of_ble_eq_true rfl, Nat.le_of_ble_eq_true rfl⟩ hN hK hA hP hD hS [0, 1, 2, 3, 4] [5, 6, 7, 8, 9, 10, 11, 12] rfl rfl rfl rfl (by decide) 0 rfl rfl rfl rfl hl.1 (Nat.le_of_ble_eq_true rfl) d_L_law_253 ⟨Nat.le_of_ble_eq_true rfl, Nat.le_of_ble_eq_true rfl⟩ (fun r_19 u H locs hw hP hD hS => ?_)
                    obtain ⟨clatestSpent_20, vr_21, tsize_22, tat_23, vb_24⟩ := u
                    try dsimp only at hw
                    have hP : va_P D gCl [(h_k, .inr (1, [.ref h_kb, .int k_size, .int k_at])), (h_kb, .inl (cI, 12, .inl vkb)), (h_y, .inr (0, [.int y_hits, .int y_runOuts, .int y_bitsRead, .int y_fewestBits])), (h_o, .inr (3, [.ref h_ow, .ref h_oq, .int o_length, .int o_spent, .ref h_ob, .int o_many, .int o_at, .int o_isOut, .ref h_or, .int o_values, .int o_failures, .int o_works])), (h_ow, .inl (cI, 8, .inl vow)), (h_oq, .inl (cI, 256, .inl voq)), (h_ob, .inl (cI, 256, .inl vob)), (h_or, .inl (cI, 4, .inl vor)), (h_c, .inr (2, [.ref h_w, .ref h_r, .ref h_t, .ref h_k, .ref h_y, .int clatestSpent_20])), (h_w, .inl (cI, 8, .inl vw)), (h_r, .inl (cI, 4, .inl vr_21)), (h_t, .inr (1, [.ref h_b, .int tsize_22, .int tat_23])), (h_b, .inl (cI, 256, .inl vb_24))] H := hP
                    have hD : va_D A [(h_k, .inr (1, [.ref h_kb, .int k_size, .int k_at])), (h_kb, .inl (cI, 12, .inl vkb)), (h_y, .inr (0, [.int y_hits, .int y_runOuts, .int y_bitsRead, .int y_fewestBits])), (h_o, .inr (3, [.ref h_ow, .ref h_oq, .int o_length, .int o_spent, .ref h_ob, .int o_many, .int o_at, .int o_isOut, .ref h_or, .int o_values, .int o_failures, .int o_works])), (h_ow, .inl (cI, 8, .inl vow)), (h_oq, .inl (cI, 256, .inl voq)), (h_ob, .inl (cI, 256, .inl vob)), (h_or, .inl (cI, 4, .inl vor)), (h_c, .inr (2, [.ref h_w, .ref h_r, .ref h_t, .ref h_k, .ref h_y, .int clatestSpent_20])), (h_w, .inl (cI, 8, .inl vw)), (h_r, .inl (cI, 4, .inl vr_21)), (h_t, .inr (1, [.ref h_b, .int tsize_22, .int tat_23])), (h_b, .inl (cI, 256, .inl vb_24))] := hD
                    refine lv_aload_n hx hb d_L_law_256 rfl (lv_at hl 1 rfl) ?_
                    refine lv_aload_n hx hb d_L_law_257 rfl (lv_at hl 3 rfl) ?_
                    refine lv_iload_n hx hb d_L_law_258 rfl (lv_at hl 0 rfl) ?_
                    refine lv_iconst (v := (nI 1)) hx hb d_L_law_259 (by decide) ?_
                    refine lv_iadd hx hb d_L_law_260 ?_
                    refine va_sld hx hb hX hbl hbA hS hw.1 d_L_law_261 ?_
                    have hw := hw.2
                    refine lv_aload_n hx hb d_L_law_262 rfl (lv_at hl 3 rfl) ?_
                    refine lv_iload_n hx hb d_L_law_263 rfl (lv_at hl 0 rfl) ?_
                    refine lv_iconst (v := (nI 2)) hx hb d_L_law_264 (by decide) ?_
                    refine lv_iadd hx hb d_L_law_265 ?_
                    refine va_sld hx hb hX hbl hbA hS hw.1 d_L_law_266 ?_
                    have hw := hw.2
                    refine lv_aload_n hx hb d_L_law_267 rfl (lv_at hl 3 rfl) ?_
                    refine lv_iload_n hx hb d_L_law_268 rfl (lv_at hl 0 rfl) ?_
                    refine lv_iconst (v := (nI 3)) hx hb d_L_law_269 (by decide) ?_
                    refine lv_iadd hx hb d_L_law_270 ?_
                    refine va_sld hx hb hX hbl hbA hS hw.1 d_L_law_271 ?_
                    have hw := hw.2
                    refine g_cVi (wr := [(h_k, .inr (1, [.ref h_kb, .int k_size, .int k_at])), (h_kb, .inl (cI, 12, .inl vkb)), (h_y, .inr (0, [.int y_hits, .int y_runOuts, .int y_bitsRead, .int y_fewestBits])), (h_c, .inr (2, [.ref h_w, .ref h_r, .ref h_t, .ref h_k, .ref h_y, .int clatestSpent_20])), (h_w, .inl (cI, 8, .inl vw)), (h_r, .inl (cI, 4, .inl vr_21)), (h_t, .inr (1, [.ref h_b, .int tsize_22, .int tat_23])), (h_b, .inl (cI, 256, .inl vb_24))]) fx (c_M_draw l D cI h_o h_ob h_or h_ow h_oq o_length o_spent o_many o_at o_isOut o_values o_failures o_works vob vor vow voq (xs ((x3 + (nI 1))).toNatClampNeg) (xs ((x3 + (nI 2))).toNatClampNeg) (xs ((x3 + (nI 3))).toNatClampNeg) _ hw) mf_M_draw w_288 ⟨rfl, rfl⟩ ⟨Nat.le_of_ble_eq_true rfl, Nat.le_of_ble_eq_true rfl⟩ hN hK hA hP hD hS [3, 6, 7, 4, 5] [0, 1, 2, 8, 9, 10, 11, 12] rfl rfl rfl rfl (by decide) 0 rfl rfl rfl rfl hl.1 (Nat.le_of_ble_eq_true rfl) d_L_law_272 ⟨Nat.le_of_ble_eq_true rfl, Nat.le_of_ble_eq_true rfl⟩ (fun r_25 u H locs hw hP hD hS => ?_)
                    obtain ⟨olength_26, ospent_27, omany_28, oat_29, oisOut_30, vb_31, vr_32, vq_33⟩ := u
                    try dsimp only at hw
                    have hP : va_P D gCl [(h_k, .inr (1, [.ref h_kb, .int k_size, .int k_at])), (h_kb, .inl (cI, 12, .inl vkb)), (h_y, .inr (0, [.int y_hits, .int y_runOuts, .int y_bitsRead, .int y_fewestBits])), (h_c, .inr (2, [.ref h_w, .ref h_r, .ref h_t, .ref h_k, .ref h_y, .int clatestSpent_20])), (h_w, .inl (cI, 8, .inl vw)), (h_r, .inl (cI, 4, .inl vr_21)), (h_t, .inr (1, [.ref h_b, .int tsize_22, .int tat_23])), (h_b, .inl (cI, 256, .inl vb_24)), (h_o, .inr (3, [.ref h_ow, .ref h_oq, .int olength_26, .int ospent_27, .ref h_ob, .int omany_28, .int oat_29, .int oisOut_30, .ref h_or, .int o_values, .int o_failures, .int o_works])), (h_ob, .inl (cI, 256, .inl vb_31)), (h_or, .inl (cI, 4, .inl vr_32)), (h_ow, .inl (cI, 8, .inl vow)), (h_oq, .inl (cI, 256, .inl vq_33))] H := hP
                    have hD : va_D A [(h_k, .inr (1, [.ref h_kb, .int k_size, .int k_at])), (h_kb, .inl (cI, 12, .inl vkb)), (h_y, .inr (0, [.int y_hits, .int y_runOuts, .int y_bitsRead, .int y_fewestBits])), (h_c, .inr (2, [.ref h_w, .ref h_r, .ref h_t, .ref h_k, .ref h_y, .int clatestSpent_20])), (h_w, .inl (cI, 8, .inl vw)), (h_r, .inl (cI, 4, .inl vr_21)), (h_t, .inr (1, [.ref h_b, .int tsize_22, .int tat_23])), (h_b, .inl (cI, 256, .inl vb_24)), (h_o, .inr (3, [.ref h_ow, .ref h_oq, .int olength_26, .int ospent_27, .ref h_ob, .int omany_28, .int oat_29, .int oisOut_30, .ref h_or, .int o_values, .int o_failures, .int o_works])), (h_ob, .inl (cI, 256, .inl vb_31)), (h_or, .inl (cI, 4, .inl vr_32)), (h_ow, .inl (cI, 8, .inl vow)), (h_oq, .inl (cI, 256, .inl vq_33))] := hD
                    refine lv_icmp_eq (tgt := 515) hx hb d_L_law_275 (by decide) (fun c275 => ?_) (fun c275 => ?_)
                    · have hw := hw.1 c275
                      refine lv_iinc (v := (x3 + (nI 6))) (lv' := [(3, .int (x3 + (nI 6))), (2, .ref h_o), (1, .ref h_c), (0, .ref b_s)]) hx hb d_L_law_515 hl (k := 0) rfl rfl (by decide) rfl (fun ls hl => ?_)
                      refine lv_goto (tgt := 18) hx hb d_L_law_518 (by decide) ?_
                      exact ih_18 _ _ _ _ _ _ _ _ _ _ _ _ _ _ _ _ _ _ _ _ _ _ _ _ _ _ hw _ _ _ (gSubP hP [3, 4, 5, 6, 7, 0, 1, 2, 8, 11, 12, 9, 10] rfl) (hD.sub [3, 4, 5, 6, 7, 0, 1, 2, 8, 11, 12, 9, 10] rfl rfl) hS (lv_sub hl [0, 1, 2, 3] rfl)
                    · have hw := hw.2 c275
                      refine lv_iconst (v := (nI 0)) hx hb d_L_law_278 (by decide) ?_
                      exact hw.elim
                  · have hw := hw.2 c33_5
                    rcases Classical.em (((xs (x3).toNatClampNeg) &&& (nI 15)) = nI 6) with c33_6 | c33_6
                    · have hw := hw.1 c33_6
                      refine g_sw (nI 6) (tgt := 280) hx hb d_L_law_33 c33_6 (by decide) (by decide) rfl (by decide) ?_
                      refine lv_aload_n hx hb d_L_law_280 rfl (lv_at hl 2 rfl) ?_
                      refine g_cVi (wr := [(h_w, .inl (cI, 8, .inl vw)), (h_r, .inl (cI, 4, .inl vr)), (h_t, .inr (1, [.ref h_b, .int t_size, .int t_at])), (h_b, .inl (cI, 256, .inl vb)), (h_k, .inr (1, [.ref h_kb, .int k_size, .int k_at])), (h_kb, .inl (cI, 12, .inl vkb)), (h_y, .inr (0, [.int y_hits, .int y_runOuts, .int y_bitsRead, .int y_fewestBits])), (h_o, .inr (3, [.ref h_ow, .ref h_oq, .int o_length, .int o_spent, .ref h_ob, .int o_many, .int o_at, .int o_isOut, .ref h_or, .int o_values, .int o_failures, .int o_works])), (h_ow, .inl (cI, 8, .inl vow)), (h_oq, .inl (cI, 256, .inl voq)), (h_ob, .inl (cI, 256, .inl vob)), (h_or, .inl (cI, 4, .inl vor))]) fx (c_C_spent l D cI h_c h_w h_r h_t h_k h_y c_latestSpent _ hw) mf_C_spent w_175 ⟨rfl, rfl⟩ ⟨Nat.le_of_ble_eq_true rfl, Nat.le_of_ble_eq_true rfl⟩ hN hK hA hP hD hS [0] [1, 2, 3, 4, 5, 6, 7, 8, 9, 10, 11, 12] rfl rfl rfl rfl (by decide) 0 rfl rfl rfl rfl hl.1 (Nat.le_of_ble_eq_true rfl) d_L_law_281 ⟨Nat.le_of_ble_eq_true rfl, Nat.le_of_ble_eq_true rfl⟩ (fun r_34 u H locs hw hP hD hS => ?_)
                      try dsimp only at hw
                      have hP : va_P D gCl [(h_w, .inl (cI, 8, .inl vw)), (h_r, .inl (cI, 4, .inl vr)), (h_t, .inr (1, [.ref h_b, .int t_size, .int t_at])), (h_b, .inl (cI, 256, .inl vb)), (h_k, .inr (1, [.ref h_kb, .int k_size, .int k_at])), (h_kb, .inl (cI, 12, .inl vkb)), (h_y, .inr (0, [.int y_hits, .int y_runOuts, .int y_bitsRead, .int y_fewestBits])), (h_o, .inr (3, [.ref h_ow, .ref h_oq, .int o_length, .int o_spent, .ref h_ob, .int o_many, .int o_at, .int o_isOut, .ref h_or, .int o_values, .int o_failures, .int o_works])), (h_ow, .inl (cI, 8, .inl vow)), (h_oq, .inl (cI, 256, .inl voq)), (h_ob, .inl (cI, 256, .inl vob)), (h_or, .inl (cI, 4, .inl vor)), (h_c, .inr (2, [.ref h_w, .ref h_r, .ref h_t, .ref h_k, .ref h_y, .int c_latestSpent]))] H := hP
                      have hD : va_D A [(h_w, .inl (cI, 8, .inl vw)), (h_r, .inl (cI, 4, .inl vr)), (h_t, .inr (1, [.ref h_b, .int t_size, .int t_at])), (h_b, .inl (cI, 256, .inl vb)), (h_k, .inr (1, [.ref h_kb, .int k_size, .int k_at])), (h_kb, .inl (cI, 12, .inl vkb)), (h_y, .inr (0, [.int y_hits, .int y_runOuts, .int y_bitsRead, .int y_fewestBits])), (h_o, .inr (3, [.ref h_ow, .ref h_oq, .int o_length, .int o_spent, .ref h_ob, .int o_many, .int o_at, .int o_isOut, .ref h_or, .int o_values, .int o_failures, .int o_works])), (h_ow, .inl (cI, 8, .inl vow)), (h_oq, .inl (cI, 256, .inl voq)), (h_ob, .inl (cI, 256, .inl vob)), (h_or, .inl (cI, 4, .inl vor)), (h_c, .inr (2, [.ref h_w, .ref h_r, .ref h_t, .ref h_k, .ref h_y, .int c_latestSpent]))] := hD
                      refine lv_aload_n hx hb d_L_law_284 rfl (lv_at hl 1 rfl) ?_
                      refine g_cVi (wr := [(h_w, .inl (cI, 8, .inl vw)), (h_r, .inl (cI, 4, .inl vr)), (h_t, .inr (1, [.ref h_b, .int t_size, .int t_at])), (h_b, .inl (cI, 256, .inl vb)), (h_k, .inr (1, [.ref h_kb, .int k_size, .int k_at])), (h_kb, .inl (cI, 12, .inl vkb)), (h_y, .inr (0, [.int y_hits, .int y_runOuts, .int y_bitsRead, .int y_fewestBits])), (h_ow, .inl (cI, 8, .inl vow)), (h_oq, .inl (cI, 256, .inl voq)), (h_ob, .inl (cI, 256, .inl vob)), (h_or, .inl (cI, 4, .inl vor)), (h_c, .inr (2, [.ref h_w, .ref h_r, .ref h_t, .ref h_k, .ref h_y, .int c_latestSpent]))]) fx (c_M_spent l D cI h_o h_ow h_oq h_ob h_or o_length o_spent o_many o_at o_isOut o_values o_failures o_works _ hw) mf_M_spent w_325 ⟨rfl, rfl⟩ ⟨Nat.le_of_ble_eq_true rfl, Nat.le_of_ble_eq_true rfl⟩ hN hK hA hP hD hS [7] [0, 1, 2, 3, 4, 5, 6, 8, 9, 10, 11, 12] rfl rfl rfl rfl (by decide) 0 rfl rfl rfl rfl hl.1 (Nat.le_of_ble_eq_true rfl) d_L_law_285 ⟨Nat.le_of_ble_eq_true rfl, Nat.le_of_ble_eq_true rfl⟩ (fun r_35 u H locs hw hP hD hS => ?_)
                      try dsimp only at hw
                      have hP : va_P D gCl [(h_w, .inl (cI, 8, .inl vw)), (h_r, .inl (cI, 4, .inl vr)), (h_t, .inr (1, [.ref h_b, .int t_size, .int t_at])), (h_b, .inl (cI, 256, .inl vb)), (h_k, .inr (1, [.ref h_kb, .int k_size, .int k_at])), (h_kb, .inl (cI, 12, .inl vkb)), (h_y, .inr (0, [.int y_hits, .int y_runOuts, .int y_bitsRead, .int y_fewestBits])), (h_ow, .inl (cI, 8, .inl vow)), (h_oq, .inl (cI, 256, .inl voq)), (h_ob, .inl (cI, 256, .inl vob)), (h_or, .inl (cI, 4, .inl vor)), (h_c, .inr (2, [.ref h_w, .ref h_r, .ref h_t, .ref h_k, .ref h_y, .int c_latestSpent])), (h_o, .inr (3, [.ref h_ow, .ref h_oq, .int o_length, .int o_spent, .ref h_ob, .int o_many, .int o_at, .int o_isOut, .ref h_or, .int o_values, .int o_failures, .int o_works]))] H := hP
                      have hD : va_D A [(h_w, .inl (cI, 8, .inl vw)), (h_r, .inl (cI, 4, .inl vr)), (h_t, .inr (1, [.ref h_b, .int t_size, .int t_at])), (h_b, .inl (cI, 256, .inl vb)), (h_k, .inr (1, [.ref h_kb, .int k_size, .int k_at])), (h_kb, .inl (cI, 12, .inl vkb)), (h_y, .inr (0, [.int y_hits, .int y_runOuts, .int y_bitsRead, .int y_fewestBits])), (h_ow, .inl (cI, 8, .inl vow)), (h_oq, .inl (cI, 256, .inl voq)), (h_ob, .inl (cI, 256, .inl vob)), (h_or, .inl (cI, 4, .inl vor)), (h_c, .inr (2, [.ref h_w, .ref h_r, .ref h_t, .ref h_k, .ref h_y, .int c_latestSpent])), (h_o, .inr (3, [.ref h_ow, .ref h_oq, .int o_length, .int o_spent, .ref h_ob, .int o_many, .int o_at, .int o_isOut, .ref h_or, .int o_values, .int o_failures, .int o_works]))] := hD
                      refine lv_icmp_eq (tgt := 515) hx hb d_L_law_288 (by decide) (fun c288 => ?_) (fun c288 => ?_)
                      · have hw := hw.1 c288
                        refine lv_iinc (v := (x3 + (nI 6))) (lv' := [(3, .int (x3 + (nI 6))), (2, .ref h_o), (1, .ref h_c), (0, .ref b_s)]) hx hb d_L_law_515 hl (k := 0) rfl rfl (by decide) rfl (fun ls hl => ?_)
                        refine lv_goto (tgt := 18) hx hb d_L_law_518 (by decide) ?_
                        exact ih_18 _ _ _ _ _ _ _ _ _ _ _ _ _ _ _ _ _ _ _ _ _ _ _ _ _ _ hw _ _ _ (gSubP hP [11, 0, 1, 2, 3, 4, 5, 6, 12, 7, 8, 9, 10] rfl) (hD.sub [11, 0, 1, 2, 3, 4, 5, 6, 12, 7, 8, 9, 10] rfl rfl) hS (lv_sub hl [0, 1, 2, 3] rfl)
                      · have hw := hw.2 c288
                        refine lv_iconst (v := (nI 0)) hx hb d_L_law_291 (by decide) ?_
                        exact hw.elim
                    · have hw := hw.2 c33_6
                      rcases Classical.em (((xs (x3).toNatClampNeg) &&& (nI 15)) = nI 7) with c33_7 | c33_7
                      · have hw := hw.1 c33_7
                        refine g_sw (nI 7) (tgt := 293) hx hb d_L_law_33 c33_7 (by decide) (by decide) rfl (by decide) ?_
                        refine lv_aload_n hx hb d_L_law_293 rfl (lv_at hl 2 rfl) ?_
                        refine lv_aload_n hx hb d_L_law_294 rfl (lv_at hl 3 rfl) ?_
                        refine lv_iload_n hx hb d_L_law_295 rfl (lv_at hl 0 rfl) ?_
                        refine lv_iconst (v := (nI 1)) hx hb d_L_law_296 (by decide) ?_
                        refine lv_iadd hx hb d_L_law_297 ?_
                        refine va_sld hx hb hX hbl hbA hS hw.1 d_L_law_298 ?_
                        have hw := hw.2
                        refine lv_aload_n hx hb d_L_law_299 rfl (lv_at hl 3 rfl) ?_
                        refine lv_iload_n hx hb d_L_law_300 rfl (lv_at hl 0 rfl) ?_
                        refine lv_iconst (v := (nI 2)) hx hb d_L_law_301 (by decide) ?_
                        refine lv_iadd hx hb d_L_law_302 ?_
                        refine va_sld hx hb hX hbl hbA hS hw.1 d_L_law_303 ?_
                        have hw := hw.2
                        refine lv_aload_n hx hb d_L_law_304 rfl (lv_at hl 3 rfl) ?_
                        refine lv_iload_n hx hb d_L_law_305 rfl (lv_at hl 0 rfl) ?_
                        refine lv_iconst (v := (nI 3)) hx hb d_L_law_306 (by decide) ?_
                        refine lv_iadd hx hb d_L_law_307 ?_
                        refine va_sld hx hb hX hbl hbA hS hw.1 d_L_law_308 ?_
                        have hw := hw.2
                        refine lv_aload_n hx hb d_L_law_309 rfl (lv_at hl 3 rfl) ?_
                        refine lv_iload_n hx hb d_L_law_310 rfl (lv_at hl 0 rfl) ?_
                        refine lv_iconst (v := (nI 4)) hx hb d_L_law_311 (by decide) ?_
                        refine lv_iadd hx hb d_L_law_312 ?_
                        refine va_sld hx hb hX hbl hbA hS hw.1 d_L_law_313 ?_
                        have hw := hw.2
                        refine lv_aload_n hx hb d_L_law_314 rfl (lv_at hl 3 rfl) ?_
                        refine lv_iload_n hx hb d_L_law_315 rfl (lv_at hl 0 rfl) ?_
                        refine lv_iconst (v := (nI 5)) hx hb d_L_law_316 (by decide) ?_
                        refine lv_iadd hx hb d_L_law_317 ?_
                        refine va_sld hx hb hX hbl hbA hS hw.1 d_L_law_318 ?_
                        have hw := hw.2
                        refine g_cVi (wr := [(h_t, .inr (1, [.ref h_b, .int t_size, .int t_at])), (h_b, .inl (cI, 256, .inl vb)), (h_o, .inr (3, [.ref h_ow, .ref h_oq, .int o_length, .int o_spent, .ref h_ob, .int o_many, .int o_at, .int o_isOut, .ref h_or, .int o_values, .int o_failures, .int o_works])), (h_ow, .inl (cI, 8, .inl vow)), (h_oq, .inl (cI, 256, .inl voq)), (h_ob, .inl (cI, 256, .inl vob)), (h_or, .inl (cI, 4, .inl vor))]) fx (c_C_count l D cI h_c h_w h_r h_k h_kb h_y h_t 12 c_latestSpent vw vr k_size k_at vkb y_hits y_runOuts y_bitsRead y_fewestBits (xs ((x3 + (nI 1))).toNatClampNeg) (xs ((x3 + (nI 2))).toNatClampNeg) (xs ((x3 + (nI 3))).toNatClampNeg) (xs ((x3 + (nI 4))).toNatClampNeg) (xs ((x3 + (nI 5))).toNatClampNeg) _ hw) mf_C_count w_179 ⟨rfl, rfl⟩ ⟨Nat.le_of_ble_eq_true rfl, Nat.le_of_ble_eq_true rfl⟩ hN hK hA hP hD hS [0, 1, 2, 5, 6, 7] [3, 4, 8, 9, 10, 11, 12] rfl rfl rfl rfl (by decide) 0 rfl rfl rfl rfl hl.1 (Nat.le_of_ble_eq_true rfl) d_L_law_319 ⟨Nat.le_of_ble_eq_true rfl, Nat.le_of_ble_eq_true rfl⟩ (fun r_36 u H locs hw hP hD hS => ?_)
                        obtain ⟨vr_37, tsize_38, tat_39, vb_40, yhits_41, yrunOuts_42, ybitsRead_43, yfewestBits_44⟩ := u
                        try dsimp only at hw
                        have hP : va_P D gCl [(h_t, .inr (1, [.ref h_b, .int t_size, .int t_at])), (h_b, .inl (cI, 256, .inl vb)), (h_o, .inr (3, [.ref h_ow, .ref h_oq, .int o_length, .int o_spent, .ref h_ob, .int o_many, .int o_at, .int o_isOut, .ref h_or, .int o_values, .int o_failures, .int o_works])), (h_ow, .inl (cI, 8, .inl vow)), (h_oq, .inl (cI, 256, .inl voq)), (h_ob, .inl (cI, 256, .inl vob)), (h_or, .inl (cI, 4, .inl vor)), (h_c, .inr (2, [.ref h_w, .ref h_r, .ref h_t, .ref h_k, .ref h_y, .int c_latestSpent])), (h_w, .inl (cI, 8, .inl vw)), (h_r, .inl (cI, 4, .inl vr_37)), (h_k, .inr (1, [.ref h_kb, .int tsize_38, .int tat_39])), (h_kb, .inl (cI, 12, .inl vb_40)), (h_y, .inr (0, [.int yhits_41, .int yrunOuts_42, .int ybitsRead_43, .int yfewestBits_44]))] H := hP
                        have hD : va_D A [(h_t, .inr (1, [.ref h_b, .int t_size, .int t_at])), (h_b, .inl (cI, 256, .inl vb)), (h_o, .inr (3, [.ref h_ow, .ref h_oq, .int o_length, .int o_spent, .ref h_ob, .int o_many, .int o_at, .int o_isOut, .ref h_or, .int o_values, .int o_failures, .int o_works])), (h_ow, .inl (cI, 8, .inl vow)), (h_oq, .inl (cI, 256, .inl voq)), (h_ob, .inl (cI, 256, .inl vob)), (h_or, .inl (cI, 4, .inl vor)), (h_c, .inr (2, [.ref h_w, .ref h_r, .ref h_t, .ref h_k, .ref h_y, .int c_latestSpent])), (h_w, .inl (cI, 8, .inl vw)), (h_r, .inl (cI, 4, .inl vr_37)), (h_k, .inr (1, [.ref h_kb, .int tsize_38, .int tat_39])), (h_kb, .inl (cI, 12, .inl vb_40)), (h_y, .inr (0, [.int yhits_41, .int yrunOuts_42, .int ybitsRead_43, .int yfewestBits_44]))] := hD
                        refine lv_aload_n hx hb d_L_law_322 rfl (lv_at hl 1 rfl) ?_
                        refine lv_aload_n hx hb d_L_law_323 rfl (lv_at hl 3 rfl) ?_
                        refine lv_iload_n hx hb d_L_law_324 rfl (lv_at hl 0 rfl) ?_
                        refine lv_iconst (v := (nI 1)) hx hb d_L_law_325 (by decide) ?_
                        refine lv_iadd hx hb d_L_law_326 ?_
                        refine va_sld hx hb hX hbl hbA hS hw.1 d_L_law_327 ?_
                        have hw := hw.2
                        refine lv_aload_n hx hb d_L_law_328 rfl (lv_at hl 3 rfl) ?_
                        refine lv_iload_n hx hb d_L_law_329 rfl (lv_at hl 0 rfl) ?_
                        refine lv_iconst (v := (nI 2)) hx hb d_L_law_330 (by decide) ?_
                        refine lv_iadd hx hb d_L_law_331 ?_
                        refine va_sld hx hb hX hbl hbA hS hw.1 d_L_law_332 ?_
                        have hw := hw.2
                        refine lv_aload_n hx hb d_L_law_333 rfl (lv_at hl 3 rfl) ?_
                        refine lv_iload_n hx hb d_L_law_334 rfl (lv_at hl 0 rfl) ?_
                        refine lv_iconst (v := (nI 3)) hx hb d_L_law_335 (by decide) ?_
                        refine lv_iadd hx hb d_L_law_336 ?_
                        refine va_sld hx hb hX hbl hbA hS hw.1 d_L_law_337 ?_
                        have hw := hw.2
                        refine lv_aload_n hx hb d_L_law_338 rfl (lv_at hl 3 rfl) ?_
                        refine lv_iload_n hx hb d_L_law_339 rfl (lv_at hl 0 rfl) ?_
                        refine lv_iconst (v := (nI 4)) hx hb d_L_law_340 (by decide) ?_
                        refine lv_iadd hx hb d_L_law_341 ?_
                        refine va_sld hx hb hX hbl hbA hS hw.1 d_L_law_342 ?_
                        have hw := hw.2
                        refine lv_aload_n hx hb d_L_law_343 rfl (lv_at hl 3 rfl) ?_
                        refine lv_iload_n hx hb d_L_law_344 rfl (lv_at hl 0 rfl) ?_
                        refine lv_iconst (v := (nI 5)) hx hb d_L_law_345 (by decide) ?_
                        refine lv_iadd hx hb d_L_law_346 ?_
                        refine va_sld hx hb hX hbl hbA hS hw.1 d_L_law_347 ?_
                        have hw := hw.2
                        refine g_cVi (wr := [(h_t, .inr (1, [.ref h_b, .int t_size, .int t_at])), (h_b, .inl (cI, 256, .inl vb)), (h_oq, .inl (cI, 256, .inl voq)), (h_c, .inr (2, [.ref h_w, .ref h_r, .ref h_t, .ref h_k, .ref h_y, .int c_latestSpent])), (h_w, .inl (cI, 8, .inl vw)), (h_r, .inl (cI, 4, .inl vr_37)), (h_k, .inr (1, [.ref h_kb, .int tsize_38, .int tat_39])), (h_kb, .inl (cI, 12, .inl vb_40)), (h_y, .inr (0, [.int yhits_41, .int yrunOuts_42, .int ybitsRead_43, .int yfewestBits_44]))]) fx (c_M_count l D cI h_o h_ob h_or h_ow h_oq o_length o_spent o_many o_at o_isOut o_values o_failures o_works vob vor vow (xs ((x3 + (nI 1))).toNatClampNeg) (xs ((x3 + (nI 2))).toNatClampNeg) (xs ((x3 + (nI 3))).toNatClampNeg) (xs ((x3 + (nI 4))).toNatClampNeg) (xs ((x3 + (nI 5))).toNatClampNeg) _ hw) mf_M_count w_329 ⟨rfl, rfl⟩ ⟨Nat.le_of_ble_eq_true rfl, Nat.le_of_ble_eq_true rfl⟩ hN hK hA hP hD hS [2, 5, 6, 3] [0, 1, 4, 7, 8, 9, 10, 11, 12] rfl rfl rfl rfl (by decide) 0 rfl rfl rfl rfl hl.1 (Nat.le_of_ble_eq_true rfl) d_L_law_348 ⟨Nat.le_of_ble_eq_true rfl, Nat.le_of_ble_eq_true rfl⟩ (fun r_45 u H locs hw hP hD hS => ?_)
                        obtain ⟨omany_46, oat_47, oisOut_48, ovalues_49, ofailures_50, oworks_51, vb_52, vr_53⟩ := u
                        try dsimp only at hw
                        have hP : va_P D gCl [(h_t, .inr (1, [.ref h_b, .int t_size, .int t_at])), (h_b, .inl (cI, 256, .inl vb)), (h_oq, .inl (cI, 256, .inl voq)), (h_c, .inr (2, [.ref h_w, .ref h_r, .ref h_t, .ref h_k, .ref h_y, .int c_latestSpent])), (h_w, .inl (cI, 8, .inl vw)), (h_r, .inl (cI, 4, .inl vr_37)), (h_k, .inr (1, [.ref h_kb, .int tsize_38, .int tat_39])), (h_kb, .inl (cI, 12, .inl vb_40)), (h_y, .inr (0, [.int yhits_41, .int yrunOuts_42, .int ybitsRead_43, .int yfewestBits_44])), (h_o, .inr (3, [.ref h_ow, .ref h_oq, .int o_length, .int o_spent, .ref h_ob, .int omany_46, .int oat_47, .int oisOut_48, .ref h_or, .int ovalues_49, .int ofailures_50, .int oworks_51])), (h_ob, .inl (cI, 256, .inl vb_52)), (h_or, .inl (cI, 4, .inl vr_53)), (h_ow, .inl (cI, 8, .inl vow))] H := hP
                        have hD : va_D A [(h_t, .inr (1, [.ref h_b, .int t_size, .int t_at])), (h_b, .inl (cI, 256, .inl vb)), (h_oq, .inl (cI, 256, .inl voq)), (h_c, .inr (2, [.ref h_w, .ref h_r, .ref h_t, .ref h_k, .ref h_y, .int c_latestSpent])), (h_w, .inl (cI, 8, .inl vw)), (h_r, .inl (cI, 4, .inl vr_37)), (h_k, .inr (1, [.ref h_kb, .int tsize_38, .int tat_39])), (h_kb, .inl (cI, 12, .inl vb_40)), (h_y, .inr (0, [.int yhits_41, .int yrunOuts_42, .int ybitsRead_43, .int yfewestBits_44])), (h_o, .inr (3, [.ref h_ow, .ref h_oq, .int o_length, .int o_spent, .ref h_ob, .int omany_46, .int oat_47, .int oisOut_48, .ref h_or, .int ovalues_49, .int ofailures_50, .int oworks_51])), (h_ob, .inl (cI, 256, .inl vb_52)), (h_or, .inl (cI, 4, .inl vr_53)), (h_ow, .inl (cI, 8, .inl vow))] := hD
                        refine lv_icmp_eq (tgt := 515) hx hb d_L_law_351 (by decide) (fun c351 => ?_) (fun c351 => ?_)
                        · have hw := hw.1 c351
                          refine lv_iinc (v := (x3 + (nI 6))) (lv' := [(3, .int (x3 + (nI 6))), (2, .ref h_o), (1, .ref h_c), (0, .ref b_s)]) hx hb d_L_law_515 hl (k := 0) rfl rfl (by decide) rfl (fun ls hl => ?_)
                          refine lv_goto (tgt := 18) hx hb d_L_law_518 (by decide) ?_
                          exact ih_18 _ _ _ _ _ _ _ _ _ _ _ _ _ _ _ _ _ _ _ _ _ _ _ _ _ _ hw _ _ _ (gSubP hP [3, 4, 5, 0, 1, 6, 7, 8, 9, 12, 2, 10, 11] rfl) (hD.sub [3, 4, 5, 0, 1, 6, 7, 8, 9, 12, 2, 10, 11] rfl rfl) hS (lv_sub hl [0, 1, 2, 3] rfl)
                        · have hw := hw.2 c351
                          refine lv_iconst (v := (nI 0)) hx hb d_L_law_354 (by decide) ?_
                          exact hw.elim
                      · have hw := hw.2 c33_7
                        rcases Classical.em (((xs (x3).toNatClampNeg) &&& (nI 15)) = nI 8) with c33_8 | c33_8
                        · have hw := hw.1 c33_8
                          refine g_sw (nI 8) (tgt := 356) hx hb d_L_law_33 c33_8 (by decide) (by decide) rfl (by decide) ?_
                          refine lv_aload_n hx hb d_L_law_356 rfl (lv_at hl 2 rfl) ?_
                          refine lv_aload_n hx hb d_L_law_357 rfl (lv_at hl 3 rfl) ?_
                          refine lv_iload_n hx hb d_L_law_358 rfl (lv_at hl 0 rfl) ?_
                          refine lv_iconst (v := (nI 1)) hx hb d_L_law_359 (by decide) ?_
                          refine lv_iadd hx hb d_L_law_360 ?_
                          refine va_sld hx hb hX hbl hbA hS hw.1 d_L_law_361 ?_
                          have hw := hw.2
                          refine lv_aload_n hx hb d_L_law_362 rfl (lv_at hl 3 rfl) ?_
                          refine lv_iload_n hx hb d_L_law_363 rfl (lv_at hl 0 rfl) ?_
                          refine lv_iconst (v := (nI 2)) hx hb d_L_law_364 (by decide) ?_
                          refine lv_iadd hx hb d_L_law_365 ?_
                          refine va_sld hx hb hX hbl hbA hS hw.1 d_L_law_366 ?_
                          have hw := hw.2
                          refine lv_aload_n hx hb d_L_law_367 rfl (lv_at hl 3 rfl) ?_
                          refine lv_iload_n hx hb d_L_law_368 rfl (lv_at hl 0 rfl) ?_
                          refine lv_iconst (v := (nI 3)) hx hb d_L_law_369 (by decide) ?_
                          refine lv_iadd hx hb d_L_law_370 ?_
                          refine va_sld hx hb hX hbl hbA hS hw.1 d_L_law_371 ?_
                          have hw := hw.2
                          refine lv_aload_n hx hb d_L_law_372 rfl (lv_at hl 3 rfl) ?_
                          refine lv_iload_n hx hb d_L_law_373 rfl (lv_at hl 0 rfl) ?_
                          refine lv_iconst (v := (nI 4)) hx hb d_L_law_374 (by decide) ?_
                          refine lv_iadd hx hb d_L_law_375 ?_
                          refine va_sld hx hb hX hbl hbA hS hw.1 d_L_law_376 ?_
                          have hw := hw.2
                          refine g_cVi (wr := [(h_t, .inr (1, [.ref h_b, .int t_size, .int t_at])), (h_b, .inl (cI, 256, .inl vb)), (h_o, .inr (3, [.ref h_ow, .ref h_oq, .int o_length, .int o_spent, .ref h_ob, .int o_many, .int o_at, .int o_isOut, .ref h_or, .int o_values, .int o_failures, .int o_works])), (h_ow, .inl (cI, 8, .inl vow)), (h_oq, .inl (cI, 256, .inl voq)), (h_ob, .inl (cI, 256, .inl vob)), (h_or, .inl (cI, 4, .inl vor))]) fx (c_C_fails l D cI h_c h_w h_r h_k h_kb h_y h_t 12 c_latestSpent vw vr k_size k_at vkb y_hits y_runOuts y_bitsRead y_fewestBits (xs ((x3 + (nI 1))).toNatClampNeg) (xs ((x3 + (nI 2))).toNatClampNeg) (xs ((x3 + (nI 3))).toNatClampNeg) (xs ((x3 + (nI 4))).toNatClampNeg) _ hw) mf_C_fails w_209 ⟨rfl, rfl⟩ ⟨Nat.le_of_ble_eq_true rfl, Nat.le_of_ble_eq_true rfl⟩ hN hK hA hP hD hS [0, 1, 2, 5, 6, 7] [3, 4, 8, 9, 10, 11, 12] rfl rfl rfl rfl (by decide) 0 rfl rfl rfl rfl hl.1 (Nat.le_of_ble_eq_true rfl) d_L_law_377 ⟨Nat.le_of_ble_eq_true rfl, Nat.le_of_ble_eq_true rfl⟩ (fun r_54 u H locs hw hP hD hS => ?_)
                          obtain ⟨vr_55, tsize_56, tat_57, vb_58, yhits_59, yrunOuts_60, ybitsRead_61, yfewestBits_62⟩ := u
                          try dsimp only at hw
                          have hP : va_P D gCl [(h_t, .inr (1, [.ref h_b, .int t_size, .int t_at])), (h_b, .inl (cI, 256, .inl vb)), (h_o, .inr (3, [.ref h_ow, .ref h_oq, .int o_length, .int o_spent, .ref h_ob, .int o_many, .int o_at, .int o_isOut, .ref h_or, .int o_values, .int o_failures, .int o_works])), (h_ow, .inl (cI, 8, .inl vow)), (h_oq, .inl (cI, 256, .inl voq)), (h_ob, .inl (cI, 256, .inl vob)), (h_or, .inl (cI, 4, .inl vor)), (h_c, .inr (2, [.ref h_w, .ref h_r, .ref h_t, .ref h_k, .ref h_y, .int c_latestSpent])), (h_w, .inl (cI, 8, .inl vw)), (h_r, .inl (cI, 4, .inl vr_55)), (h_k, .inr (1, [.ref h_kb, .int tsize_56, .int tat_57])), (h_kb, .inl (cI, 12, .inl vb_58)), (h_y, .inr (0, [.int yhits_59, .int yrunOuts_60, .int ybitsRead_61, .int yfewestBits_62]))] H := hP
                          have hD : va_D A [(h_t, .inr (1, [.ref h_b, .int t_size, .int t_at])), (h_b, .inl (cI, 256, .inl vb)), (h_o, .inr (3, [.ref h_ow, .ref h_oq, .int o_length, .int o_spent, .ref h_ob, .int o_many, .int o_at, .int o_isOut, .ref h_or, .int o_values, .int o_failures, .int o_works])), (h_ow, .inl (cI, 8, .inl vow)), (h_oq, .inl (cI, 256, .inl voq)), (h_ob, .inl (cI, 256, .inl vob)), (h_or, .inl (cI, 4, .inl vor)), (h_c, .inr (2, [.ref h_w, .ref h_r, .ref h_t, .ref h_k, .ref h_y, .int c_latestSpent])), (h_w, .inl (cI, 8, .inl vw)), (h_r, .inl (cI, 4, .inl vr_55)), (h_k, .inr (1, [.ref h_kb, .int tsize_56, .int tat_57])), (h_kb, .inl (cI, 12, .inl vb_58)), (h_y, .inr (0, [.int yhits_59, .int yrunOuts_60, .int ybitsRead_61, .int yfewestBits_62]))] := hD
                          refine lv_aload_n hx hb d_L_law_380 rfl (lv_at hl 1 rfl) ?_
                          refine lv_aload_n hx hb d_L_law_381 rfl (lv_at hl 3 rfl) ?_
                          refine lv_iload_n hx hb d_L_law_382 rfl (lv_at hl 0 rfl) ?_
                          refine lv_iconst (v := (nI 1)) hx hb d_L_law_383 (by decide) ?_
                          refine lv_iadd hx hb d_L_law_384 ?_
                          refine va_sld hx hb hX hbl hbA hS hw.1 d_L_law_385 ?_
                          have hw := hw.2
                          refine lv_aload_n hx hb d_L_law_386 rfl (lv_at hl 3 rfl) ?_
                          refine lv_iload_n hx hb d_L_law_387 rfl (lv_at hl 0 rfl) ?_
                          refine lv_iconst (v := (nI 2)) hx hb d_L_law_388 (by decide) ?_
                          refine lv_iadd hx hb d_L_law_389 ?_
                          refine va_sld hx hb hX hbl hbA hS hw.1 d_L_law_390 ?_
                          have hw := hw.2
                          refine lv_aload_n hx hb d_L_law_391 rfl (lv_at hl 3 rfl) ?_
                          refine lv_iload_n hx hb d_L_law_392 rfl (lv_at hl 0 rfl) ?_
                          refine lv_iconst (v := (nI 3)) hx hb d_L_law_393 (by decide) ?_
                          refine lv_iadd hx hb d_L_law_394 ?_
                          refine va_sld hx hb hX hbl hbA hS hw.1 d_L_law_395 ?_
                          have hw := hw.2
                          refine lv_aload_n hx hb d_L_law_396 rfl (lv_at hl 3 rfl) ?_
                          refine lv_iload_n hx hb d_L_law_397 rfl (lv_at hl 0 rfl) ?_
                          refine lv_iconst (v := (nI 4)) hx hb d_L_law_398 (by decide) ?_
                          refine lv_iadd hx hb d_L_law_399 ?_
                          refine va_sld hx hb hX hbl hbA hS hw.1 d_L_law_400 ?_
                          have hw := hw.2
                          refine g_cVi (wr := [(h_t, .inr (1, [.ref h_b, .int t_size, .int t_at])), (h_b, .inl (cI, 256, .inl vb)), (h_oq, .inl (cI, 256, .inl voq)), (h_c, .inr (2, [.ref h_w, .ref h_r, .ref h_t, .ref h_k, .ref h_y, .int c_latestSpent])), (h_w, .inl (cI, 8, .inl vw)), (h_r, .inl (cI, 4, .inl vr_55)), (h_k, .inr (1, [.ref h_kb, .int tsize_56, .int tat_57])), (h_kb, .inl (cI, 12, .inl vb_58)), (h_y, .inr (0, [.int yhits_59, .int yrunOuts_60, .int ybitsRead_61, .int yfewestBits_62]))]) fx (c_M_fails l D cI h_o h_ob h_or h_ow h_oq o_length o_spent o_many o_at o_isOut o_values o_failures o_works vob vor vow (xs ((x3 + (nI 1))).toNatClampNeg) (xs ((x3 + (nI 2))).toNatClampNeg) (xs ((x3 + (nI 3))).toNatClampNeg) (xs ((x3 + (nI 4))).toNatClampNeg) _ hw) mf_M_fails w_341 ⟨rfl, rfl⟩ ⟨Nat.le_of_ble_eq_true rfl, Nat.le_of_ble_eq_true rfl⟩ hN hK hA hP hD hS [2, 5, 6, 3] [0, 1, 4, 7, 8, 9, 10, 11, 12] rfl rfl rfl rfl (by decide) 0 rfl rfl rfl rfl hl.1 (Nat.le_of_ble_eq_true rfl) d_L_law_401 ⟨Nat.le_of_ble_eq_true rfl, Nat.le_of_ble_eq_true rfl⟩ (fun r_63 u H locs hw hP hD hS => ?_)
                          obtain ⟨omany_64, oat_65, oisOut_66, ovalues_67, ofailures_68, oworks_69, vb_70, vr_71⟩ := u
                          try dsimp only at hw
                          have hP : va_P D gCl [(h_t, .inr (1, [.ref h_b, .int t_size, .int t_at])), (h_b, .inl (cI, 256, .inl vb)), (h_oq, .inl (cI, 256, .inl voq)), (h_c, .inr (2, [.ref h_w, .ref h_r, .ref h_t, .ref h_k, .ref h_y, .int c_latestSpent])), (h_w, .inl (cI, 8, .inl vw)), (h_r, .inl (cI, 4, .inl vr_55)), (h_k, .inr (1, [.ref h_kb, .int tsize_56, .int tat_57])), (h_kb, .inl (cI, 12, .inl vb_58)), (h_y, .inr (0, [.int yhits_59, .int yrunOuts_60, .int ybitsRead_61, .int yfewestBits_62])), (h_o, .inr (3, [.ref h_ow, .ref h_oq, .int o_length, .int o_spent, .ref h_ob, .int omany_64, .int oat_65, .int oisOut_66, .ref h_or, .int ovalues_67, .int ofailures_68, .int oworks_69])), (h_ob, .inl (cI, 256, .inl vb_70)), (h_or, .inl (cI, 4, .inl vr_71)), (h_ow, .inl (cI, 8, .inl vow))] H := hP
                          have hD : va_D A [(h_t, .inr (1, [.ref h_b, .int t_size, .int t_at])), (h_b, .inl (cI, 256, .inl vb)), (h_oq, .inl (cI, 256, .inl voq)), (h_c, .inr (2, [.ref h_w, .ref h_r, .ref h_t, .ref h_k, .ref h_y, .int c_latestSpent])), (h_w, .inl (cI, 8, .inl vw)), (h_r, .inl (cI, 4, .inl vr_55)), (h_k, .inr (1, [.ref h_kb, .int tsize_56, .int tat_57])), (h_kb, .inl (cI, 12, .inl vb_58)), (h_y, .inr (0, [.int yhits_59, .int yrunOuts_60, .int ybitsRead_61, .int yfewestBits_62])), (h_o, .inr (3, [.ref h_ow, .ref h_oq, .int o_length, .int o_spent, .ref h_ob, .int omany_64, .int oat_65, .int oisOut_66, .ref h_or, .int ovalues_67, .int ofailures_68, .int oworks_69])), (h_ob, .inl (cI, 256, .inl vb_70)), (h_or, .inl (cI, 4, .inl vr_71)), (h_ow, .inl (cI, 8, .inl vow))] := hD
                          refine lv_icmp_eq (tgt := 515) hx hb d_L_law_404 (by decide) (fun c404 => ?_) (fun c404 => ?_)
                          · have hw := hw.1 c404
                            refine lv_iinc (v := (x3 + (nI 6))) (lv' := [(3, .int (x3 + (nI 6))), (2, .ref h_o), (1, .ref h_c), (0, .ref b_s)]) hx hb d_L_law_515 hl (k := 0) rfl rfl (by decide) rfl (fun ls hl => ?_)
                            refine lv_goto (tgt := 18) hx hb d_L_law_518 (by decide) ?_
                            exact ih_18 _ _ _ _ _ _ _ _ _ _ _ _ _ _ _ _ _ _ _ _ _ _ _ _ _ _ hw _ _ _ (gSubP hP [3, 4, 5, 0, 1, 6, 7, 8, 9, 12, 2, 10, 11] rfl) (hD.sub [3, 4, 5, 0, 1, 6, 7, 8, 9, 12, 2, 10, 11] rfl rfl) hS (lv_sub hl [0, 1, 2, 3] rfl)
                          · have hw := hw.2 c404
                            refine lv_iconst (v := (nI 0)) hx hb d_L_law_407 (by decide) ?_
                            exact hw.elim
                        · have hw := hw.2 c33_8
                          rcases Classical.em (((xs (x3).toNatClampNeg) &&& (nI 15)) = nI 9) with c33_9 | c33_9
                          · have hw := hw.1 c33_9
                            refine g_sw (nI 9) (tgt := 409) hx hb d_L_law_33 c33_9 (by decide) (by decide) rfl (by decide) ?_
                            refine lv_aload_n hx hb d_L_law_409 rfl (lv_at hl 2 rfl) ?_
                            refine lv_aload_n hx hb d_L_law_410 rfl (lv_at hl 3 rfl) ?_
                            refine lv_iload_n hx hb d_L_law_411 rfl (lv_at hl 0 rfl) ?_
                            refine lv_iconst (v := (nI 1)) hx hb d_L_law_412 (by decide) ?_
                            refine lv_iadd hx hb d_L_law_413 ?_
                            refine va_sld hx hb hX hbl hbA hS hw.1 d_L_law_414 ?_
                            have hw := hw.2
                            refine lv_aload_n hx hb d_L_law_415 rfl (lv_at hl 3 rfl) ?_
                            refine lv_iload_n hx hb d_L_law_416 rfl (lv_at hl 0 rfl) ?_
                            refine lv_iconst (v := (nI 2)) hx hb d_L_law_417 (by decide) ?_
                            refine lv_iadd hx hb d_L_law_418 ?_
                            refine va_sld hx hb hX hbl hbA hS hw.1 d_L_law_419 ?_
                            have hw := hw.2
                            refine lv_aload_n hx hb d_L_law_420 rfl (lv_at hl 3 rfl) ?_
                            refine lv_iload_n hx hb d_L_law_421 rfl (lv_at hl 0 rfl) ?_
                            refine lv_iconst (v := (nI 3)) hx hb d_L_law_422 (by decide) ?_
                            refine lv_iadd hx hb d_L_law_423 ?_
                            refine va_sld hx hb hX hbl hbA hS hw.1 d_L_law_424 ?_
                            have hw := hw.2
                            refine lv_aload_n hx hb d_L_law_425 rfl (lv_at hl 3 rfl) ?_
                            refine lv_iload_n hx hb d_L_law_426 rfl (lv_at hl 0 rfl) ?_
                            refine lv_iconst (v := (nI 4)) hx hb d_L_law_427 (by decide) ?_
                            refine lv_iadd hx hb d_L_law_428 ?_
                            refine va_sld hx hb hX hbl hbA hS hw.1 d_L_law_429 ?_
                            have hw := hw.2
                            refine g_cVi (wr := [(h_t, .inr (1, [.ref h_b, .int t_size, .int t_at])), (h_b, .inl (cI, 256, .inl vb)), (h_o, .inr (3, [.ref h_ow, .ref h_oq, .int o_length, .int o_spent, .ref h_ob, .int o_many, .int o_at, .int o_isOut, .ref h_or, .int o_values, .int o_failures, .int o_works])), (h_ow, .inl (cI, 8, .inl vow)), (h_oq, .inl (cI, 256, .inl voq)), (h_ob, .inl (cI, 256, .inl vob)), (h_or, .inl (cI, 4, .inl vor))]) fx (c_C_work l D cI h_c h_w h_r h_k h_kb h_y h_t 12 c_latestSpent vw vr k_size k_at vkb y_hits y_runOuts y_bitsRead y_fewestBits (xs ((x3 + (nI 1))).toNatClampNeg) (xs ((x3 + (nI 2))).toNatClampNeg) (xs ((x3 + (nI 3))).toNatClampNeg) (xs ((x3 + (nI 4))).toNatClampNeg) _ hw) mf_C_work w_213 ⟨rfl, rfl⟩ ⟨Nat.le_of_ble_eq_true rfl, Nat.le_of_ble_eq_true rfl⟩ hN hK hA hP hD hS [0, 1, 2, 5, 6, 7] [3, 4, 8, 9, 10, 11, 12] rfl rfl rfl rfl (by decide) 0 rfl rfl rfl rfl hl.1 (Nat.le_of_ble_eq_true rfl) d_L_law_430 ⟨Nat.le_of_ble_eq_true rfl, Nat.le_of_ble_eq_true rfl⟩ (fun r_72 u H locs hw hP hD hS => ?_)
                            obtain ⟨vr_73, tsize_74, tat_75, vb_76, yhits_77, yrunOuts_78, ybitsRead_79, yfewestBits_80⟩ := u
                            try dsimp only at hw
                            have hP : va_P D gCl [(h_t, .inr (1, [.ref h_b, .int t_size, .int t_at])), (h_b, .inl (cI, 256, .inl vb)), (h_o, .inr (3, [.ref h_ow, .ref h_oq, .int o_length, .int o_spent, .ref h_ob, .int o_many, .int o_at, .int o_isOut, .ref h_or, .int o_values, .int o_failures, .int o_works])), (h_ow, .inl (cI, 8, .inl vow)), (h_oq, .inl (cI, 256, .inl voq)), (h_ob, .inl (cI, 256, .inl vob)), (h_or, .inl (cI, 4, .inl vor)), (h_c, .inr (2, [.ref h_w, .ref h_r, .ref h_t, .ref h_k, .ref h_y, .int c_latestSpent])), (h_w, .inl (cI, 8, .inl vw)), (h_r, .inl (cI, 4, .inl vr_73)), (h_k, .inr (1, [.ref h_kb, .int tsize_74, .int tat_75])), (h_kb, .inl (cI, 12, .inl vb_76)), (h_y, .inr (0, [.int yhits_77, .int yrunOuts_78, .int ybitsRead_79, .int yfewestBits_80]))] H := hP
                            have hD : va_D A [(h_t, .inr (1, [.ref h_b, .int t_size, .int t_at])), (h_b, .inl (cI, 256, .inl vb)), (h_o, .inr (3, [.ref h_ow, .ref h_oq, .int o_length, .int o_spent, .ref h_ob, .int o_many, .int o_at, .int o_isOut, .ref h_or, .int o_values, .int o_failures, .int o_works])), (h_ow, .inl (cI, 8, .inl vow)), (h_oq, .inl (cI, 256, .inl voq)), (h_ob, .inl (cI, 256, .inl vob)), (h_or, .inl (cI, 4, .inl vor)), (h_c, .inr (2, [.ref h_w, .ref h_r, .ref h_t, .ref h_k, .ref h_y, .int c_latestSpent])), (h_w, .inl (cI, 8, .inl vw)), (h_r, .inl (cI, 4, .inl vr_73)), (h_k, .inr (1, [.ref h_kb, .int tsize_74, .int tat_75])), (h_kb, .inl (cI, 12, .inl vb_76)), (h_y, .inr (0, [.int yhits_77, .int yrunOuts_78, .int ybitsRead_79, .int yfewestBits_80]))] := hD
                            refine lv_aload_n hx hb d_L_law_433 rfl (lv_at hl 1 rfl) ?_
                            refine lv_aload_n hx hb d_L_law_434 rfl (lv_at hl 3 rfl) ?_
                            refine lv_iload_n hx hb d_L_law_435 rfl (lv_at hl 0 rfl) ?_
                            refine lv_iconst (v := (nI 1)) hx hb d_L_law_436 (by decide) ?_
                            refine lv_iadd hx hb d_L_law_437 ?_
                            refine va_sld hx hb hX hbl hbA hS hw.1 d_L_law_438 ?_
                            have hw := hw.2
                            refine lv_aload_n hx hb d_L_law_439 rfl (lv_at hl 3 rfl) ?_
                            refine lv_iload_n hx hb d_L_law_440 rfl (lv_at hl 0 rfl) ?_
                            refine lv_iconst (v := (nI 2)) hx hb d_L_law_441 (by decide) ?_
                            refine lv_iadd hx hb d_L_law_442 ?_
                            refine va_sld hx hb hX hbl hbA hS hw.1 d_L_law_443 ?_
                            have hw := hw.2
                            refine lv_aload_n hx hb d_L_law_444 rfl (lv_at hl 3 rfl) ?_
                            refine lv_iload_n hx hb d_L_law_445 rfl (lv_at hl 0 rfl) ?_
                            refine lv_iconst (v := (nI 3)) hx hb d_L_law_446 (by decide) ?_
                            refine lv_iadd hx hb d_L_law_447 ?_
                            refine va_sld hx hb hX hbl hbA hS hw.1 d_L_law_448 ?_
                            have hw := hw.2
                            refine lv_aload_n hx hb d_L_law_449 rfl (lv_at hl 3 rfl) ?_
                            refine lv_iload_n hx hb d_L_law_450 rfl (lv_at hl 0 rfl) ?_
                            refine lv_iconst (v := (nI 4)) hx hb d_L_law_451 (by decide) ?_
                            refine lv_iadd hx hb d_L_law_452 ?_
                            refine va_sld hx hb hX hbl hbA hS hw.1 d_L_law_453 ?_
                            have hw := hw.2
                            refine g_cVi (wr := [(h_t, .inr (1, [.ref h_b, .int t_size, .int t_at])), (h_b, .inl (cI, 256, .inl vb)), (h_oq, .inl (cI, 256, .inl voq)), (h_c, .inr (2, [.ref h_w, .ref h_r, .ref h_t, .ref h_k, .ref h_y, .int c_latestSpent])), (h_w, .inl (cI, 8, .inl vw)), (h_r, .inl (cI, 4, .inl vr_73)), (h_k, .inr (1, [.ref h_kb, .int tsize_74, .int tat_75])), (h_kb, .inl (cI, 12, .inl vb_76)), (h_y, .inr (0, [.int yhits_77, .int yrunOuts_78, .int ybitsRead_79, .int yfewestBits_80]))]) fx (c_M_work l D cI h_o h_ob h_or h_ow h_oq o_length o_spent o_many o_at o_isOut o_values o_failures o_works vob vor vow (xs ((x3 + (nI 1))).toNatClampNeg) (xs ((x3 + (nI 2))).toNatClampNeg) (xs ((x3 + (nI 3))).toNatClampNeg) (xs ((x3 + (nI 4))).toNatClampNeg) _ hw) mf_M_work w_345 ⟨rfl, rfl⟩ ⟨Nat.le_of_ble_eq_true rfl, Nat.le_of_ble_eq_true rfl⟩ hN hK hA hP hD hS [2, 5, 6, 3] [0, 1, 4, 7, 8, 9, 10, 11, 12] rfl rfl rfl rfl (by decide) 0 rfl rfl rfl rfl hl.1 (Nat.le_of_ble_eq_true rfl) d_L_law_454 ⟨Nat.le_of_ble_eq_true rfl, Nat.le_of_ble_eq_true rfl⟩ (fun r_81 u H locs hw hP hD hS => ?_)
                            obtain ⟨omany_82, oat_83, oisOut_84, ovalues_85, ofailures_86, oworks_87, vb_88, vr_89⟩ := u
                            try dsimp only at hw
                            have hP : va_P D gCl [(h_t, .inr (1, [.ref h_b, .int t_size, .int t_at])), (h_b, .inl (cI, 256, .inl vb)), (h_oq, .inl (cI, 256, .inl voq)), (h_c, .inr (2, [.ref h_w, .ref h_r, .ref h_t, .ref h_k, .ref h_y, .int c_latestSpent])), (h_w, .inl (cI, 8, .inl vw)), (h_r, .inl (cI, 4, .inl vr_73)), (h_k, .inr (1, [.ref h_kb, .int tsize_74, .int tat_75])), (h_kb, .inl (cI, 12, .inl vb_76)), (h_y, .inr (0, [.int yhits_77, .int yrunOuts_78, .int ybitsRead_79, .int yfewestBits_80])), (h_o, .inr (3, [.ref h_ow, .ref h_oq, .int o_length, .int o_spent, .ref h_ob, .int omany_82, .int oat_83, .int oisOut_84, .ref h_or, .int ovalues_85, .int ofailures_86, .int oworks_87])), (h_ob, .inl (cI, 256, .inl vb_88)), (h_or, .inl (cI, 4, .inl vr_89)), (h_ow, .inl (cI, 8, .inl vow))] H := hP
                            have hD : va_D A [(h_t, .inr (1, [.ref h_b, .int t_size, .int t_at])), (h_b, .inl (cI, 256, .inl vb)), (h_oq, .inl (cI, 256, .inl voq)), (h_c, .inr (2, [.ref h_w, .ref h_r, .ref h_t, .ref h_k, .ref h_y, .int c_latestSpent])), (h_w, .inl (cI, 8, .inl vw)), (h_r, .inl (cI, 4, .inl vr_73)), (h_k, .inr (1, [.ref h_kb, .int tsize_74, .int tat_75])), (h_kb, .inl (cI, 12, .inl vb_76)), (h_y, .inr (0, [.int yhits_77, .int yrunOuts_78, .int ybitsRead_79, .int yfewestBits_80])), (h_o, .inr (3, [.ref h_ow, .ref h_oq, .int o_length, .int o_spent, .ref h_ob, .int omany_82, .int oat_83, .int oisOut_84, .ref h_or, .int ovalues_85, .int ofailures_86, .int oworks_87])), (h_ob, .inl (cI, 256, .inl vb_88)), (h_or, .inl (cI, 4, .inl vr_89)), (h_ow, .inl (cI, 8, .inl vow))] := hD
                            refine lv_icmp_eq (tgt := 515) hx hb d_L_law_457 (by decide) (fun c457 => ?_) (fun c457 => ?_)
                            · have hw := hw.1 c457
                              refine lv_iinc (v := (x3 + (nI 6))) (lv' := [(3, .int (x3 + (nI 6))), (2, .ref h_o), (1, .ref h_c), (0, .ref b_s)]) hx hb d_L_law_515 hl (k := 0) rfl rfl (by decide) rfl (fun ls hl => ?_)
                              refine lv_goto (tgt := 18) hx hb d_L_law_518 (by decide) ?_
                              exact ih_18 _ _ _ _ _ _ _ _ _ _ _ _ _ _ _ _ _ _ _ _ _ _ _ _ _ _ hw _ _ _ (gSubP hP [3, 4, 5, 0, 1, 6, 7, 8, 9, 12, 2, 10, 11] rfl) (hD.sub [3, 4, 5, 0, 1, 6, 7, 8, 9, 12, 2, 10, 11] rfl rfl) hS (lv_sub hl [0, 1, 2, 3] rfl)
                            · have hw := hw.2 c457
                              refine lv_iconst (v := (nI 0)) hx hb d_L_law_460 (by decide) ?_
                              exact hw.elim
                          · have hw := hw.2 c33_9
                            rcases Classical.em (((xs (x3).toNatClampNeg) &&& (nI 15)) = nI 10) with c33_10 | c33_10
                            · have hw := hw.1 c33_10
                              refine g_sw (nI 10) (tgt := 462) hx hb d_L_law_33 c33_10 (by decide) (by decide) rfl (by decide) ?_
                              refine lv_aload_n hx hb d_L_law_462 rfl (lv_at hl 2 rfl) ?_
                              refine lv_aload_n hx hb d_L_law_463 rfl (lv_at hl 3 rfl) ?_
                              refine lv_iload_n hx hb d_L_law_464 rfl (lv_at hl 0 rfl) ?_
                              refine lv_iconst (v := (nI 1)) hx hb d_L_law_465 (by decide) ?_
                              refine lv_iadd hx hb d_L_law_466 ?_
                              refine va_sld hx hb hX hbl hbA hS hw.1 d_L_law_467 ?_
                              have hw := hw.2
                              refine lv_aload_n hx hb d_L_law_468 rfl (lv_at hl 3 rfl) ?_
                              refine lv_iload_n hx hb d_L_law_469 rfl (lv_at hl 0 rfl) ?_
                              refine lv_iconst (v := (nI 2)) hx hb d_L_law_470 (by decide) ?_
                              refine lv_iadd hx hb d_L_law_471 ?_
                              refine va_sld hx hb hX hbl hbA hS hw.1 d_L_law_472 ?_
                              have hw := hw.2
                              refine lv_aload_n hx hb d_L_law_473 rfl (lv_at hl 3 rfl) ?_
                              refine lv_iload_n hx hb d_L_law_474 rfl (lv_at hl 0 rfl) ?_
                              refine lv_iconst (v := (nI 3)) hx hb d_L_law_475 (by decide) ?_
                              refine lv_iadd hx hb d_L_law_476 ?_
                              refine va_sld hx hb hX hbl hbA hS hw.1 d_L_law_477 ?_
                              have hw := hw.2
                              refine lv_aload_n hx hb d_L_law_478 rfl (lv_at hl 3 rfl) ?_
                              refine lv_iload_n hx hb d_L_law_479 rfl (lv_at hl 0 rfl) ?_
                              refine lv_iconst (v := (nI 4)) hx hb d_L_law_480 (by decide) ?_
                              refine lv_iadd hx hb d_L_law_481 ?_
                              refine va_sld hx hb hX hbl hbA hS hw.1 d_L_law_482 ?_
                              have hw := hw.2
                              refine g_cVi (wr := [(h_t, .inr (1, [.ref h_b, .int t_size, .int t_at])), (h_b, .inl (cI, 256, .inl vb)), (h_o, .inr (3, [.ref h_ow, .ref h_oq, .int o_length, .int o_spent, .ref h_ob, .int o_many, .int o_at, .int o_isOut, .ref h_or, .int o_values, .int o_failures, .int o_works])), (h_ow, .inl (cI, 8, .inl vow)), (h_oq, .inl (cI, 256, .inl voq)), (h_ob, .inl (cI, 256, .inl vob)), (h_or, .inl (cI, 4, .inl vor))]) fx (c_C_first l D cI h_c h_w h_r h_k h_kb h_y h_t 12 c_latestSpent vw vr k_size k_at vkb y_hits y_runOuts y_bitsRead y_fewestBits (xs ((x3 + (nI 1))).toNatClampNeg) (xs ((x3 + (nI 2))).toNatClampNeg) (xs ((x3 + (nI 3))).toNatClampNeg) (xs ((x3 + (nI 4))).toNatClampNeg) _ hw) mf_C_first w_217 ⟨rfl, rfl⟩ ⟨Nat.le_of_ble_eq_true rfl, Nat.le_of_ble_eq_true rfl⟩ hN hK hA hP hD hS [0, 1, 2, 5, 6, 7] [3, 4, 8, 9, 10, 11, 12] rfl rfl rfl rfl (by decide) 0 rfl rfl rfl rfl hl.1 (Nat.le_of_ble_eq_true rfl) d_L_law_483 ⟨Nat.le_of_ble_eq_true rfl, Nat.le_of_ble_eq_true rfl⟩ (fun r_90 u H locs hw hP hD hS => ?_)
                              obtain ⟨vr_91, tsize_92, tat_93, vb_94, yhits_95, yrunOuts_96, ybitsRead_97, yfewestBits_98⟩ := u
                              try dsimp only at hw
                              have hP : va_P D gCl [(h_t, .inr (1, [.ref h_b, .int t_size, .int t_at])), (h_b, .inl (cI, 256, .inl vb)), (h_o, .inr (3, [.ref h_ow, .ref h_oq, .int o_length, .int o_spent, .ref h_ob, .int o_many, .int o_at, .int o_isOut, .ref h_or, .int o_values, .int o_failures, .int o_works])), (h_ow, .inl (cI, 8, .inl vow)), (h_oq, .inl (cI, 256, .inl voq)), (h_ob, .inl (cI, 256, .inl vob)), (h_or, .inl (cI, 4, .inl vor)), (h_c, .inr (2, [.ref h_w, .ref h_r, .ref h_t, .ref h_k, .ref h_y, .int c_latestSpent])), (h_w, .inl (cI, 8, .inl vw)), (h_r, .inl (cI, 4, .inl vr_91)), (h_k, .inr (1, [.ref h_kb, .int tsize_92, .int tat_93])), (h_kb, .inl (cI, 12, .inl vb_94)), (h_y, .inr (0, [.int yhits_95, .int yrunOuts_96, .int ybitsRead_97, .int yfewestBits_98]))] H := hP
                              have hD : va_D A [(h_t, .inr (1, [.ref h_b, .int t_size, .int t_at])), (h_b, .inl (cI, 256, .inl vb)), (h_o, .inr (3, [.ref h_ow, .ref h_oq, .int o_length, .int o_spent, .ref h_ob, .int o_many, .int o_at, .int o_isOut, .ref h_or, .int o_values, .int o_failures, .int o_works])), (h_ow, .inl (cI, 8, .inl vow)), (h_oq, .inl (cI, 256, .inl voq)), (h_ob, .inl (cI, 256, .inl vob)), (h_or, .inl (cI, 4, .inl vor)), (h_c, .inr (2, [.ref h_w, .ref h_r, .ref h_t, .ref h_k, .ref h_y, .int c_latestSpent])), (h_w, .inl (cI, 8, .inl vw)), (h_r, .inl (cI, 4, .inl vr_91)), (h_k, .inr (1, [.ref h_kb, .int tsize_92, .int tat_93])), (h_kb, .inl (cI, 12, .inl vb_94)), (h_y, .inr (0, [.int yhits_95, .int yrunOuts_96, .int ybitsRead_97, .int yfewestBits_98]))] := hD
                              refine lv_aload_n hx hb d_L_law_486 rfl (lv_at hl 1 rfl) ?_
                              refine lv_aload_n hx hb d_L_law_487 rfl (lv_at hl 3 rfl) ?_
                              refine lv_iload_n hx hb d_L_law_488 rfl (lv_at hl 0 rfl) ?_
                              refine lv_iconst (v := (nI 1)) hx hb d_L_law_489 (by decide) ?_
                              refine lv_iadd hx hb d_L_law_490 ?_
                              refine va_sld hx hb hX hbl hbA hS hw.1 d_L_law_491 ?_
                              have hw := hw.2
                              refine lv_aload_n hx hb d_L_law_492 rfl (lv_at hl 3 rfl) ?_
                              refine lv_iload_n hx hb d_L_law_493 rfl (lv_at hl 0 rfl) ?_
                              refine lv_iconst (v := (nI 2)) hx hb d_L_law_494 (by decide) ?_
                              refine lv_iadd hx hb d_L_law_495 ?_
                              refine va_sld hx hb hX hbl hbA hS hw.1 d_L_law_496 ?_
                              have hw := hw.2
                              refine lv_aload_n hx hb d_L_law_497 rfl (lv_at hl 3 rfl) ?_
                              refine lv_iload_n hx hb d_L_law_498 rfl (lv_at hl 0 rfl) ?_
                              refine lv_iconst (v := (nI 3)) hx hb d_L_law_499 (by decide) ?_
                              refine lv_iadd hx hb d_L_law_500 ?_
                              refine va_sld hx hb hX hbl hbA hS hw.1 d_L_law_501 ?_
                              have hw := hw.2
                              refine lv_aload_n hx hb d_L_law_502 rfl (lv_at hl 3 rfl) ?_
                              refine lv_iload_n hx hb d_L_law_503 rfl (lv_at hl 0 rfl) ?_
                              refine lv_iconst (v := (nI 4)) hx hb d_L_law_504 (by decide) ?_
                              refine lv_iadd hx hb d_L_law_505 ?_
                              refine va_sld hx hb hX hbl hbA hS hw.1 d_L_law_506 ?_
                              have hw := hw.2
                              refine g_cVi (wr := [(h_t, .inr (1, [.ref h_b, .int t_size, .int t_at])), (h_b, .inl (cI, 256, .inl vb)), (h_oq, .inl (cI, 256, .inl voq)), (h_c, .inr (2, [.ref h_w, .ref h_r, .ref h_t, .ref h_k, .ref h_y, .int c_latestSpent])), (h_w, .inl (cI, 8, .inl vw)), (h_r, .inl (cI, 4, .inl vr_91)), (h_k, .inr (1, [.ref h_kb, .int tsize_92, .int tat_93])), (h_kb, .inl (cI, 12, .inl vb_94)), (h_y, .inr (0, [.int yhits_95, .int yrunOuts_96, .int ybitsRead_97, .int yfewestBits_98]))]) fx (c_M_first l D cI h_o h_ob h_or h_ow h_oq o_length o_spent o_many o_at o_isOut o_values o_failures o_works vob vor vow (xs ((x3 + (nI 1))).toNatClampNeg) (xs ((x3 + (nI 2))).toNatClampNeg) (xs ((x3 + (nI 3))).toNatClampNeg) (xs ((x3 + (nI 4))).toNatClampNeg) _ hw) mf_M_first w_349 ⟨rfl, rfl⟩ ⟨Nat.le_of_ble_eq_true rfl, Nat.le_of_ble_eq_true rfl⟩ hN hK hA hP hD hS [2, 5, 6, 3] [0, 1, 4, 7, 8, 9, 10, 11, 12] rfl rfl rfl rfl (by decide) 0 rfl rfl rfl rfl hl.1 (Nat.le_of_ble_eq_true rfl) d_L_law_507 ⟨Nat.le_of_ble_eq_true rfl, Nat.le_of_ble_eq_true rfl⟩ (fun r_99 u H locs hw hP hD hS => ?_)
                              obtain ⟨omany_100, oat_101, oisOut_102, ovalues_103, ofailures_104, oworks_105, vb_106, vr_107⟩ := u
                              try dsimp only at hw
                              have hP : va_P D gCl [(h_t, .inr (1, [.ref h_b, .int t_size, .int t_at])), (h_b, .inl (cI, 256, .inl vb)), (h_oq, .inl (cI, 256, .inl voq)), (h_c, .inr (2, [.ref h_w, .ref h_r, .ref h_t, .ref h_k, .ref h_y, .int c_latestSpent])), (h_w, .inl (cI, 8, .inl vw)), (h_r, .inl (cI, 4, .inl vr_91)), (h_k, .inr (1, [.ref h_kb, .int tsize_92, .int tat_93])), (h_kb, .inl (cI, 12, .inl vb_94)), (h_y, .inr (0, [.int yhits_95, .int yrunOuts_96, .int ybitsRead_97, .int yfewestBits_98])), (h_o, .inr (3, [.ref h_ow, .ref h_oq, .int o_length, .int o_spent, .ref h_ob, .int omany_100, .int oat_101, .int oisOut_102, .ref h_or, .int ovalues_103, .int ofailures_104, .int oworks_105])), (h_ob, .inl (cI, 256, .inl vb_106)), (h_or, .inl (cI, 4, .inl vr_107)), (h_ow, .inl (cI, 8, .inl vow))] H := hP
                              have hD : va_D A [(h_t, .inr (1, [.ref h_b, .int t_size, .int t_at])), (h_b, .inl (cI, 256, .inl vb)), (h_oq, .inl (cI, 256, .inl voq)), (h_c, .inr (2, [.ref h_w, .ref h_r, .ref h_t, .ref h_k, .ref h_y, .int c_latestSpent])), (h_w, .inl (cI, 8, .inl vw)), (h_r, .inl (cI, 4, .inl vr_91)), (h_k, .inr (1, [.ref h_kb, .int tsize_92, .int tat_93])), (h_kb, .inl (cI, 12, .inl vb_94)), (h_y, .inr (0, [.int yhits_95, .int yrunOuts_96, .int ybitsRead_97, .int yfewestBits_98])), (h_o, .inr (3, [.ref h_ow, .ref h_oq, .int o_length, .int o_spent, .ref h_ob, .int omany_100, .int oat_101, .int oisOut_102, .ref h_or, .int ovalues_103, .int ofailures_104, .int oworks_105])), (h_ob, .inl (cI, 256, .inl vb_106)), (h_or, .inl (cI, 4, .inl vr_107)), (h_ow, .inl (cI, 8, .inl vow))] := hD
                              refine lv_icmp_eq (tgt := 515) hx hb d_L_law_510 (by decide) (fun c510 => ?_) (fun c510 => ?_)
                              · have hw := hw.1 c510
                                refine lv_iinc (v := (x3 + (nI 6))) (lv' := [(3, .int (x3 + (nI 6))), (2, .ref h_o), (1, .ref h_c), (0, .ref b_s)]) hx hb d_L_law_515 hl (k := 0) rfl rfl (by decide) rfl (fun ls hl => ?_)
                                refine lv_goto (tgt := 18) hx hb d_L_law_518 (by decide) ?_
                                exact ih_18 _ _ _ _ _ _ _ _ _ _ _ _ _ _ _ _ _ _ _ _ _ _ _ _ _ _ hw _ _ _ (gSubP hP [3, 4, 5, 0, 1, 6, 7, 8, 9, 12, 2, 10, 11] rfl) (hD.sub [3, 4, 5, 0, 1, 6, 7, 8, 9, 12, 2, 10, 11] rfl rfl) hS (lv_sub hl [0, 1, 2, 3] rfl)
                              · have hw := hw.2 c510
                                refine lv_iconst (v := (nI 0)) hx hb d_L_law_513 (by decide) ?_
                                exact hw.elim
                            · have hw := hw.2 c33_10
                              refine lv_tableOut (tgt := 515) hx hb d_L_law_33 (by have h := g_out (x := ((xs (x3).toNatClampNeg) &&& (nI 15))) (n := 11) (by decide) (fun j hj => by rcases (show j = 0 ∨ j = 1 ∨ j = 2 ∨ j = 3 ∨ j = 4 ∨ j = 5 ∨ j = 6 ∨ j = 7 ∨ j = 8 ∨ j = 9 ∨ j = 10 by omega) with rfl | rfl | rfl | rfl | rfl | rfl | rfl | rfl | rfl | rfl | rfl <;> assumption); omega) (by decide) ?_
                              refine lv_iinc (v := (x3 + (nI 6))) (lv' := [(3, .int (x3 + (nI 6))), (2, .ref h_o), (1, .ref h_c), (0, .ref b_s)]) hx hb d_L_law_515 hl (k := 0) rfl rfl (by decide) rfl (fun ls hl => ?_)
                              refine lv_goto (tgt := 18) hx hb d_L_law_518 (by decide) ?_
                              exact ih_18 _ _ _ _ _ _ _ _ _ _ _ _ _ _ _ _ _ _ _ _ _ _ _ _ _ _ hw _ _ _ hP hD hS (lv_sub hl [0, 1, 2, 3] rfl)
  exact k_18 n_18 _ _ _ _ _ _ _ _ _ _ _ _ _ _ _ _ _ _ _ _ _ _ _ _ _ _ hw _ _ _ hP hD hS (lv_sub hl [0, 1, 2, 3] rfl)
