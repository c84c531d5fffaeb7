
/-- .. with one of these thrown -/
def zTx (d : zD) (A : Nat → Nat) (nk ns : Nat) (V : Nat → Nat → Int32) (G : zG) (es : List String) : String → zG → Prop := fun E G1 => E ∈ es ∧ ∃ D' V', zT d A D' V' nk ns G1 ∧ zKo V V' ∧ tFr A nk ns G G1
theorem th_165b : (∀ w ∈ vx_atS "Threeboxes" 165 "java/lang/IndexOutOfBoundsException" ["java/lang/RuntimeException", "java/lang/Exception"], w ∈ lw_tbl) := th_165.1

theorem d_Tb_ofSecret_0 : decode c_Tb_ofSecret 0 = .ok (.aload_n 0, 1) := by decide +kernel
theorem d_Tb_ofSecret_1 : decode c_Tb_ofSecret 1 = .ok (.iload_n 1, 1) := by decide +kernel
theorem d_Tb_ofSecret_2 : decode c_Tb_ofSecret 2 = .ok (.invokevirtual 140, 3) := by decide +kernel
theorem d_Tb_ofSecret_5 : decode c_Tb_ofSecret 5 = .ok (.astore_n 3, 1) := by decide +kernel
theorem d_Tb_ofSecret_6 : decode c_Tb_ofSecret 6 = .ok (.iload_n 2, 1) := by decide +kernel
theorem d_Tb_ofSecret_7 : decode c_Tb_ofSecret 7 = .ok (.iconst 0, 1) := by decide +kernel
theorem d_Tb_ofSecret_8 : decode c_Tb_ofSecret 8 = .ok (.bipush 8, 2) := by decide +kernel
theorem d_Tb_ofSecret_10 : decode c_Tb_ofSecret 10 = .ok (.invokestatic 57, 3) := by decide +kernel
theorem d_Tb_ofSecret_13 : decode c_Tb_ofSecret 13 = .ok (.ifCond .ne 13, 3) := by decide +kernel
theorem d_Tb_ofSecret_16 : decode c_Tb_ofSecret 16 = .ok (.new 61, 3) := by decide +kernel
theorem d_Tb_ofSecret_19 : decode c_Tb_ofSecret 19 = .ok (.dup, 1) := by decide +kernel
theorem d_Tb_ofSecret_20 : decode c_Tb_ofSecret 20 = .ok (.ldc 236, 2) := by decide +kernel
theorem d_Tb_ofSecret_22 : decode c_Tb_ofSecret 22 = .ok (.invokespecial 65, 3) := by decide +kernel
theorem d_Tb_ofSecret_25 : decode c_Tb_ofSecret 25 = .ok (.athrow, 1) := by decide +kernel
theorem d_Tb_ofSecret_26 : decode c_Tb_ofSecret 26 = .ok (.aload_n 0, 1) := by decide +kernel
theorem d_Tb_ofSecret_27 : decode c_Tb_ofSecret 27 = .ok (.aload_n 3, 1) := by decide +kernel
theorem d_Tb_ofSecret_28 : decode c_Tb_ofSecret 28 = .ok (.iload_n 2, 1) := by decide +kernel
theorem d_Tb_ofSecret_29 : decode c_Tb_ofSecret 29 = .ok (.invokevirtual 238, 3) := by decide +kernel
theorem d_Tb_ofSecret_32 : decode c_Tb_ofSecret 32 = .ok (.ireturn, 1) := by decide +kernel
set_option maxHeartbeats 4000000 in
set_option maxRecDepth 100000 in
theorem m_Tb_ofSecret {g0 : State} {d : zD} {l : Launch} {a0 : Array Value} (hs0 : zS0 d a0 g0) (hst : l.stackTraces = false) {G : zG} {A : Nat → Nat} {D : Nat → UInt64} {V : Nat → Nat → Int32} {nk ns : Nat} (hT : zT d A D V nk ns G) (x w : Int32) : zMet g0 d l y_Tb_ofSecret c_Tb_ofSecret 4 ((Option.some Jvm.ClassFile.FieldType.int)) 9 2 12 [.ref (A 0), .int x, .int w] (G) (zTu d A nk ns V G zrI) (zTx d A nk ns V G ["java/lang/IllegalArgumentException", "java/lang/IndexOutOfBoundsException"]) := by
  have hG_Tb := hT.tb
  have hnk : nk ≤ 8 := hT.2.1
  have hns : ns ≤ 6 := hT.2.2.1
  refine z_entry hs0 hst (by decide) (Nat.le_of_ble_eq_true rfl) (fun p e s m args below meth c => ?_)
  refine z_aload_n 0 d_Tb_ofSecret_0 rfl rfl ?_
  refine z_iload_n 1 d_Tb_ofSecret_1 rfl rfl ?_
  refine z_callV (m_Tb_secretAt hs0 hst hT x) ym_Tb_secretAt qM_Tb_140 qI_Tb_secretAt qV_Tb_Tb_secretAt zc_Tb hG_Tb d_Tb_ofSecret_2 rfl (Nat.le_of_ble_eq_true rfl) ⟨by decide, by decide⟩ ⟨Nat.le_of_ble_eq_true rfl, Nat.le_of_ble_eq_true rfl⟩ ?_ ?_
  · exact fun E G9 hx => by
      obtain ⟨hx1, rfl, hx3⟩ := hx
      obtain rfl : G = G9 := hx3.symm
      exact z_out ⟨by simp, D, V, hT, zKo.rf, zFr.rf⟩ (by decide) (by decide)
  intro r_2 G_2 hp_2
  obtain ⟨si, hsi, rfl, rfl, hg_2⟩ := hp_2
  obtain rfl : G = G_2 := hg_2.symm
  refine z_astore_n (L' := [(3, _), (0, _), (1, _), (2, _)]) d_Tb_ofSecret_5 rfl (by decide) rfl ?_
  refine z_iload_n 3 d_Tb_ofSecret_6 rfl rfl ?_
  refine z_iconst (v := 0) d_Tb_ofSecret_7 (by decide) ?_
  refine z_bipush (v := 8) d_Tb_ofSecret_8 (by decide) ?_
  refine z_callS0 (m_Tb_isFrom hs0 hst w 0 _) ym_Tb_isFrom qM_Tb_57 qS_Tb_isFrom d_Tb_ofSecret_10 rfl (Nat.le_of_ble_eq_true rfl) ⟨by decide, by decide⟩ ⟨Nat.le_of_ble_eq_true rfl, Nat.le_of_ble_eq_true rfl⟩ ?_
  refine z_if_ne 26 d_Tb_ofSecret_13 (by decide) (fun c_13 => ?_) (fun c_13 => ?_)
  · skip
    refine z_aload_n 1 d_Tb_ofSecret_26 rfl rfl ?_
    refine z_aload_n 0 d_Tb_ofSecret_27 rfl rfl ?_
    refine z_iload_n 3 d_Tb_ofSecret_28 rfl rfl ?_
    refine z_callVp0 (m_Tb_tellOfSecret hs0 hst hT hsi w) ym_Tb_tellOfSecret qM_Tb_238 qI_Tb_tellOfSecret qV_Tb_Tb_tellOfSecret zc_Tb hG_Tb d_Tb_ofSecret_29 rfl (Nat.le_of_ble_eq_true rfl) ⟨by decide, by decide⟩ ⟨Nat.le_of_ble_eq_true rfl, Nat.le_of_ble_eq_true rfl⟩ (fun r_29 G_29 hp_29 => ?_)
    obtain ⟨⟨v_29, rfl⟩, rfl⟩ := hp_29
    exact z_iret rfl (⟨⟨_, rfl⟩, D, V, hT, zKo.rf, zFr.rf⟩) (by first | decide | omega) (by first | decide | omega) d_Tb_ofSecret_32
  · skip
    exact z_thS (names := ["java/lang/RuntimeException", "java/lang/Exception"]) (by decide) (by decide) qK_Tb_61 qN_IAE qR_Tb_236 th_65.1 th_65.2 d_Tb_ofSecret_16 d_Tb_ofSecret_19 d_Tb_ofSecret_20 d_Tb_ofSecret_22 d_Tb_ofSecret_25 (by decide) (Nat.le_of_ble_eq_true rfl) ⟨by decide, by decide⟩ (⟨by simp, D, V, hT, zKo.rf, zFr.rf⟩) (by decide) (by decide)
theorem d_Tb_bank_0 : decode c_Tb_bank 0 = .ok (.iload_n 1, 1) := by decide +kernel
theorem d_Tb_bank_1 : decode c_Tb_bank 1 = .ok (.iconst 0, 1) := by decide +kernel
theorem d_Tb_bank_2 : decode c_Tb_bank 2 = .ok (.bipush 11, 2) := by decide +kernel
theorem d_Tb_bank_4 : decode c_Tb_bank 4 = .ok (.invokestatic 57, 3) := by decide +kernel
theorem d_Tb_bank_7 : decode c_Tb_bank 7 = .ok (.ifCond .ne 13, 3) := by decide +kernel
theorem d_Tb_bank_10 : decode c_Tb_bank 10 = .ok (.new 61, 3) := by decide +kernel
theorem d_Tb_bank_13 : decode c_Tb_bank 13 = .ok (.dup, 1) := by decide +kernel
theorem d_Tb_bank_14 : decode c_Tb_bank 14 = .ok (.ldc 248, 2) := by decide +kernel
theorem d_Tb_bank_16 : decode c_Tb_bank 16 = .ok (.invokespecial 65, 3) := by decide +kernel
theorem d_Tb_bank_19 : decode c_Tb_bank 19 = .ok (.athrow, 1) := by decide +kernel
theorem d_Tb_bank_20 : decode c_Tb_bank 20 = .ok (.aload_n 0, 1) := by decide +kernel
theorem d_Tb_bank_21 : decode c_Tb_bank 21 = .ok (.iload_n 1, 1) := by decide +kernel
theorem d_Tb_bank_22 : decode c_Tb_bank 22 = .ok (.invokevirtual 250, 3) := by decide +kernel
theorem d_Tb_bank_25 : decode c_Tb_bank 25 = .ok (.ireturn, 1) := by decide +kernel
set_option maxHeartbeats 4000000 in
set_option maxRecDepth 100000 in
theorem m_Tb_bank {g0 : State} {d : zD} {l : Launch} {a0 : Array Value} (hs0 : zS0 d a0 g0) (hst : l.stackTraces = false) {G : zG} {A : Nat → Nat} {D : Nat → UInt64} {V : Nat → Nat → Int32} {nk ns : Nat} (hT : zT d A D V nk ns G) (w : Int32) : zMet g0 d l y_Tb_bank c_Tb_bank 2 ((Option.some Jvm.ClassFile.FieldType.int)) 8 1 6 [.ref (A 0), .int w] (G) (zTu d A nk ns V G zrI) (zTx d A nk ns V G ["java/lang/IllegalArgumentException"]) := by
  have hG_Tb := hT.tb
  have hnk : nk ≤ 8 := hT.2.1
  have hns : ns ≤ 6 := hT.2.2.1
  refine z_entry hs0 hst (by decide) (Nat.le_of_ble_eq_true rfl) (fun p e s m args below meth c => ?_)
  refine z_iload_n 1 d_Tb_bank_0 rfl rfl ?_
  refine z_iconst (v := 0) d_Tb_bank_1 (by decide) ?_
  refine z_bipush (v := 11) d_Tb_bank_2 (by decide) ?_
  refine z_callS0 (m_Tb_isFrom hs0 hst w 0 _) ym_Tb_isFrom qM_Tb_57 qS_Tb_isFrom d_Tb_bank_4 rfl (Nat.le_of_ble_eq_true rfl) ⟨by decide, by decide⟩ ⟨Nat.le_of_ble_eq_true rfl, Nat.le_of_ble_eq_true rfl⟩ ?_
  refine z_if_ne 20 d_Tb_bank_7 (by decide) (fun c_7 => ?_) (fun c_7 => ?_)
  · skip
    refine z_aload_n 0 d_Tb_bank_20 rfl rfl ?_
    refine z_iload_n 1 d_Tb_bank_21 rfl rfl ?_
    refine z_callVp0 (m_Tb_tellOfBank hs0 hst hT w) ym_Tb_tellOfBank qM_Tb_250 qI_Tb_tellOfBank qV_Tb_Tb_tellOfBank zc_Tb hG_Tb d_Tb_bank_22 rfl (Nat.le_of_ble_eq_true rfl) ⟨by decide, by decide⟩ ⟨Nat.le_of_ble_eq_true rfl, Nat.le_of_ble_eq_true rfl⟩ (fun r_22 G_22 hp_22 => ?_)
    obtain ⟨⟨v_22, rfl⟩, rfl⟩ := hp_22
    exact z_iret rfl (⟨⟨_, rfl⟩, D, V, hT, zKo.rf, zFr.rf⟩) (by first | decide | omega) (by first | decide | omega) d_Tb_bank_25
  · skip
    exact z_thS (names := ["java/lang/RuntimeException", "java/lang/Exception"]) (by decide) (by decide) qK_Tb_61 qN_IAE qR_Tb_248 th_65.1 th_65.2 d_Tb_bank_10 d_Tb_bank_13 d_Tb_bank_14 d_Tb_bank_16 d_Tb_bank_19 (by decide) (Nat.le_of_ble_eq_true rfl) ⟨by decide, by decide⟩ (⟨by simp, D, V, hT, zKo.rf, zFr.rf⟩) (by decide) (by decide)
theorem d_Tb_lost_0 : decode c_Tb_lost 0 = .ok (.aload_n 0, 1) := by decide +kernel
theorem d_Tb_lost_1 : decode c_Tb_lost 1 = .ok (.aload_n 0, 1) := by decide +kernel
theorem d_Tb_lost_2 : decode c_Tb_lost 2 = .ok (.iload_n 1, 1) := by decide +kernel
theorem d_Tb_lost_3 : decode c_Tb_lost 3 = .ok (.invokevirtual 140, 3) := by decide +kernel
theorem d_Tb_lost_6 : decode c_Tb_lost 6 = .ok (.invokevirtual 294, 3) := by decide +kernel
theorem d_Tb_lost_9 : decode c_Tb_lost 9 = .ok (.dreturn, 1) := by decide +kernel
set_option maxHeartbeats 4000000 in
set_option maxRecDepth 100000 in
theorem m_Tb_lost {g0 : State} {d : zD} {l : Launch} {a0 : Array Value} (hs0 : zS0 d a0 g0) (hst : l.stackTraces = false) {G : zG} {A : Nat → Nat} {D : Nat → UInt64} {V : Nat → Nat → Int32} {nk ns : Nat} (hT : zT d A D V nk ns G) (x : Int32) : zMet g0 d l y_Tb_lost c_Tb_lost 2 ((Option.some Jvm.ClassFile.FieldType.double)) 9 1 6 [.ref (A 0), .int x] (G) (zTu d A nk ns V G zrD) (zTx d A nk ns V G ["java/lang/IndexOutOfBoundsException"]) := by
  have hG_Tb := hT.tb
  have hnk : nk ≤ 8 := hT.2.1
  have hns : ns ≤ 6 := hT.2.2.1
  refine z_entry hs0 hst (by decide) (Nat.le_of_ble_eq_true rfl) (fun p e s m args below meth c => ?_)
  refine z_aload_n 0 d_Tb_lost_0 rfl rfl ?_
  refine z_aload_n 0 d_Tb_lost_1 rfl rfl ?_
  refine z_iload_n 1 d_Tb_lost_2 rfl rfl ?_
  refine z_callV (m_Tb_secretAt hs0 hst hT x) ym_Tb_secretAt qM_Tb_140 qI_Tb_secretAt qV_Tb_Tb_secretAt zc_Tb hG_Tb d_Tb_lost_3 rfl (Nat.le_of_ble_eq_true rfl) ⟨by decide, by decide⟩ ⟨Nat.le_of_ble_eq_true rfl, Nat.le_of_ble_eq_true rfl⟩ ?_ ?_
  · exact fun E G9 hx => by
      obtain ⟨hx1, rfl, hx3⟩ := hx
      obtain rfl : G = G9 := hx3.symm
      exact z_out ⟨by simp, D, V, hT, zKo.rf, zFr.rf⟩ (by decide) (by decide)
  intro r_3 G_3 hp_3
  obtain ⟨si, hsi, rfl, rfl, hg_3⟩ := hp_3
  obtain rfl : G = G_3 := hg_3.symm
  refine z_callVp0 (m_Tb_chanceLost hs0 hst hT hsi) ym_Tb_chanceLost qM_Tb_294 qI_Tb_chanceLost qV_Tb_Tb_chanceLost zc_Tb hG_Tb d_Tb_lost_6 rfl (Nat.le_of_ble_eq_true rfl) ⟨by decide, by decide⟩ ⟨Nat.le_of_ble_eq_true rfl, Nat.le_of_ble_eq_true rfl⟩ (fun r_6 G_6 hp_6 => ?_)
  obtain ⟨⟨u9, rfl, hu9⟩, D3, V3, hT3, hK3, hF3⟩ := hp_6
  exact z_dret rfl (⟨⟨_, rfl, hu9⟩, D3, V3, hT3, hK3, hF3⟩) (by first | decide | omega) (by first | decide | omega) d_Tb_lost_9
theorem d_Tb_fewest_0 : decode c_Tb_fewest 0 = .ok (.aload_n 0, 1) := by decide +kernel
theorem d_Tb_fewest_1 : decode c_Tb_fewest 1 = .ok (.aload_n 0, 1) := by decide +kernel
theorem d_Tb_fewest_2 : decode c_Tb_fewest 2 = .ok (.iload_n 1, 1) := by decide +kernel
theorem d_Tb_fewest_3 : decode c_Tb_fewest 3 = .ok (.invokevirtual 140, 3) := by decide +kernel
theorem d_Tb_fewest_6 : decode c_Tb_fewest 6 = .ok (.invokevirtual 298, 3) := by decide +kernel
theorem d_Tb_fewest_9 : decode c_Tb_fewest 9 = .ok (.ireturn, 1) := by decide +kernel
set_option maxHeartbeats 4000000 in
set_option maxRecDepth 100000 in
theorem m_Tb_fewest {g0 : State} {d : zD} {l : Launch} {a0 : Array Value} (hs0 : zS0 d a0 g0) (hst : l.stackTraces = false) {G : zG} {A : Nat → Nat} {D : Nat → UInt64} {V : Nat → Nat → Int32} {nk ns : Nat} (hT : zT d A D V nk ns G) (x : Int32) : zMet g0 d l y_Tb_fewest c_Tb_fewest 2 ((Option.some Jvm.ClassFile.FieldType.int)) 9 1 6 [.ref (A 0), .int x] (G) (zTu d A nk ns V G zrI) (zTx d A nk ns V G ["java/lang/IndexOutOfBoundsException"]) := by
  have hG_Tb := hT.tb
  have hnk : nk ≤ 8 := hT.2.1
  have hns : ns ≤ 6 := hT.2.2.1
  refine z_entry hs0 hst (by decide) (Nat.le_of_ble_eq_true rfl) (fun p e s m args below meth c => ?_)
  refine z_aload_n 0 d_Tb_fewest_0 rfl rfl ?_
  refine z_aload_n 0 d_Tb_fewest_1 rfl rfl ?_
  refine z_iload_n 1 d_Tb_fewest_2 rfl rfl ?_
  refine z_callV (m_Tb_secretAt hs0 hst hT x) ym_Tb_secretAt qM_Tb_140 qI_Tb_secretAt qV_Tb_Tb_secretAt zc_Tb hG_Tb d_Tb_fewest_3 rfl (Nat.le_of_ble_eq_true rfl) ⟨by decide, by decide⟩ ⟨Nat.le_of_ble_eq_true rfl, Nat.le_of_ble_eq_true rfl⟩ ?_ ?_
  · exact fun E G9 hx => by
      obtain ⟨hx1, rfl, hx3⟩ := hx
      obtain rfl : G = G9 := hx3.symm
      exact z_out ⟨by simp, D, V, hT, zKo.rf, zFr.rf⟩ (by decide) (by decide)
  intro r_3 G_3 hp_3
  obtain ⟨si, hsi, rfl, rfl, hg_3⟩ := hp_3
  obtain rfl : G = G_3 := hg_3.symm
  refine z_callVp0 (m_Tb_fewestOf hs0 hst hT (hT.se hsi)) ym_Tb_fewestOf qM_Tb_298 qI_Tb_fewestOf qV_Tb_Tb_fewestOf zc_Tb hG_Tb d_Tb_fewest_6 rfl (Nat.le_of_ble_eq_true rfl) ⟨by decide, by decide⟩ ⟨Nat.le_of_ble_eq_true rfl, Nat.le_of_ble_eq_true rfl⟩ (fun r_6 G_6 hp_6 => ?_)
  obtain ⟨⟨v_6, rfl⟩, rfl⟩ := hp_6
  exact z_iret rfl (⟨⟨_, rfl⟩, D, V, hT, zKo.rf, zFr.rf⟩) (by first | decide | omega) (by first | decide | omega) d_Tb_fewest_9
theorem d_Tb_would_0 : decode c_Tb_would 0 = .ok (.aload_n 0, 1) := by decide +kernel
theorem d_Tb_would_1 : decode c_Tb_would 1 = .ok (.iload_n 1, 1) := by decide +kernel
theorem d_Tb_would_2 : decode c_Tb_would 2 = .ok (.invokevirtual 140, 3) := by decide +kernel
theorem d_Tb_would_5 : decode c_Tb_would 5 = .ok (.astore 4, 2) := by decide +kernel
theorem d_Tb_would_7 : decode c_Tb_would 7 = .ok (.aload_n 0, 1) := by decide +kernel
theorem d_Tb_would_8 : decode c_Tb_would 8 = .ok (.iload_n 2, 1) := by decide +kernel
theorem d_Tb_would_9 : decode c_Tb_would 9 = .ok (.invokevirtual 101, 3) := by decide +kernel
theorem d_Tb_would_12 : decode c_Tb_would 12 = .ok (.iload_n 3, 1) := by decide +kernel
theorem d_Tb_would_13 : decode c_Tb_would 13 = .ok (.iconst 0, 1) := by decide +kernel
theorem d_Tb_would_14 : decode c_Tb_would 14 = .ok (.iconst 5, 1) := by decide +kernel
theorem d_Tb_would_15 : decode c_Tb_would 15 = .ok (.invokestatic 57, 3) := by decide +kernel
theorem d_Tb_would_18 : decode c_Tb_would 18 = .ok (.ifCond .ne 14, 3) := by decide +kernel
theorem d_Tb_would_21 : decode c_Tb_would 21 = .ok (.new 61, 3) := by decide +kernel
theorem d_Tb_would_24 : decode c_Tb_would 24 = .ok (.dup, 1) := by decide +kernel
theorem d_Tb_would_25 : decode c_Tb_would 25 = .ok (.ldc_w 281, 3) := by decide +kernel
theorem d_Tb_would_28 : decode c_Tb_would 28 = .ok (.invokespecial 65, 3) := by decide +kernel
theorem d_Tb_would_31 : decode c_Tb_would 31 = .ok (.athrow, 1) := by decide +kernel
theorem d_Tb_would_32 : decode c_Tb_would 32 = .ok (.aload_n 0, 1) := by decide +kernel
theorem d_Tb_would_33 : decode c_Tb_would 33 = .ok (.aload 4, 2) := by decide +kernel
theorem d_Tb_would_35 : decode c_Tb_would 35 = .ok (.iload_n 2, 1) := by decide +kernel
theorem d_Tb_would_36 : decode c_Tb_would 36 = .ok (.invokevirtual 184, 3) := by decide +kernel
theorem d_Tb_would_39 : decode c_Tb_would 39 = .ok (.aload_n 0, 1) := by decide +kernel
theorem d_Tb_would_40 : decode c_Tb_would 40 = .ok (.getfield 36, 3) := by decide +kernel
theorem d_Tb_would_43 : decode c_Tb_would 43 = .ok (.invokevirtual 188, 3) := by decide +kernel
theorem d_Tb_would_46 : decode c_Tb_would 46 = .ok (.aload_n 0, 1) := by decide +kernel
theorem d_Tb_would_47 : decode c_Tb_would 47 = .ok (.aload 4, 2) := by decide +kernel
theorem d_Tb_would_49 : decode c_Tb_would 49 = .ok (.iload_n 3, 1) := by decide +kernel
theorem d_Tb_would_50 : decode c_Tb_would 50 = .ok (.invokevirtual 283, 3) := by decide +kernel
theorem d_Tb_would_53 : decode c_Tb_would 53 = .ok (.ireturn, 1) := by decide +kernel
set_option maxHeartbeats 4000000 in
set_option maxRecDepth 100000 in
theorem m_Tb_would {g0 : State} {d : zD} {l : Launch} {a0 : Array Value} (hs0 : zS0 d a0 g0) (hst : l.stackTraces = false) {G : zG} {A : Nat → Nat} {D : Nat → UInt64} {V : Nat → Nat → Int32} {nk ns : Nat} (hT : zT d A D V nk ns G) (x set w : Int32) : zMet g0 d l y_Tb_would c_Tb_would 5 ((Option.some Jvm.ClassFile.FieldType.int)) 9 3 18 [.ref (A 0), .int x, .int set, .int w] (G) (zTu d A nk ns V G zrI) (zTx d A nk ns V G ["java/lang/IllegalArgumentException", "java/lang/IndexOutOfBoundsException"]) := by
  have hG_Tb := hT.tb
  have hnk : nk ≤ 8 := hT.2.1
  have hns : ns ≤ 6 := hT.2.2.1
  refine z_entry hs0 hst (by decide) (Nat.le_of_ble_eq_true rfl) (fun p e s m args below meth c => ?_)
  refine z_aload_n 0 d_Tb_would_0 rfl rfl ?_
  refine z_iload_n 1 d_Tb_would_1 rfl rfl ?_
  refine z_callV (m_Tb_secretAt hs0 hst hT x) ym_Tb_secretAt qM_Tb_140 qI_Tb_secretAt qV_Tb_Tb_secretAt zc_Tb (by first | exact hT4.tb | exact hT3.tb | exact hT.tb) d_Tb_would_2 rfl (Nat.le_of_ble_eq_true rfl) ⟨by decide, by decide⟩ ⟨Nat.le_of_ble_eq_true rfl, Nat.le_of_ble_eq_true rfl⟩ ?_ ?_
  · exact fun E G9 hx => by
      obtain ⟨hx1, rfl, hx3⟩ := hx
      obtain rfl : G = G9 := hx3.symm
      exact z_out ⟨by simp, D, V, hT, zKo.rf, zFr.rf⟩ (by decide) (by decide)
  intro r_2 G_2 hp_2
  obtain ⟨si, hsi, rfl, rfl, hg_2⟩ := hp_2
  obtain rfl : G = G_2 := hg_2.symm
  refine z_astore (L' := [(4, _), (0, _), (1, _), (2, _), (3, _)]) d_Tb_would_5 (by decide) rfl ?_
  refine z_aload_n 1 d_Tb_would_7 rfl rfl ?_
  refine z_iload_n 3 d_Tb_would_8 rfl rfl ?_
  refine z_callV (m_Tb_needSet hs0 hst hT set) ym_Tb_needSet qM_Tb_101 qI_Tb_needSet qV_Tb_Tb_needSet zc_Tb (by first | exact hT4.tb | exact hT3.tb | exact hT.tb) d_Tb_would_9 rfl (Nat.le_of_ble_eq_true rfl) ⟨by decide, by decide⟩ ⟨Nat.le_of_ble_eq_true rfl, Nat.le_of_ble_eq_true rfl⟩ ?_ ?_
  · exact fun E G9 hx => by
      obtain ⟨hx1, rfl, hx3⟩ := hx
      obtain rfl : G = G9 := hx3.symm
      exact z_out ⟨by simp, D, V, hT, zKo.rf, zFr.rf⟩ (by decide) (by decide)
  intro r_9 G_9 hp_9
  obtain ⟨hs_9, hr_9, hg_9⟩ := hp_9
  obtain rfl : r_9 = none := hr_9
  obtain rfl : G = G_9 := hg_9.symm
  refine z_iload_n 4 d_Tb_would_12 rfl rfl ?_
  refine z_iconst (v := 0) d_Tb_would_13 (by decide) ?_
  refine z_iconst (v := 5) d_Tb_would_14 (by decide) ?_
  refine z_callS0 (m_Tb_isFrom hs0 hst w 0 _) ym_Tb_isFrom qM_Tb_57 qS_Tb_isFrom d_Tb_would_15 rfl (Nat.le_of_ble_eq_true rfl) ⟨by decide, by decide⟩ ⟨Nat.le_of_ble_eq_true rfl, Nat.le_of_ble_eq_true rfl⟩ ?_
  refine z_if_ne 32 d_Tb_would_18 (by decide) (fun c_18 => ?_) (fun c_18 => ?_)
  · skip
    refine z_aload_n 1 d_Tb_would_32 rfl rfl ?_
    refine z_aload 0 d_Tb_would_33 rfl ?_
    refine z_iload_n 3 d_Tb_would_35 rfl rfl ?_
    refine z_callVp0 (m_Tb_gatherGroup hs0 hst hT hsi set) ym_Tb_gatherGroup qM_Tb_184 qI_Tb_gatherGroup qV_Tb_Tb_gatherGroup zc_Tb (by first | exact hT4.tb | exact hT3.tb | exact hT.tb) d_Tb_would_36 rfl (Nat.le_of_ble_eq_true rfl) ⟨by decide, by decide⟩ ⟨Nat.le_of_ble_eq_true rfl, Nat.le_of_ble_eq_true rfl⟩ (fun r_36 G_36 hp_36 => ?_)
    obtain ⟨hr_36, D3, V3, hT3, hK3, hF3⟩ := hp_36
    obtain rfl : r_36 = none := hr_36
    obtain ⟨q9, hq9, hg9⟩ := hT3.dec
    refine z_aload_n 1 d_Tb_would_39 rfl rfl ?_
    refine z_get zc_Tb 4 (by decide) qF_Tb_36 (by first | exact hT4.tb | exact hT3.tb | exact hT.tb) rfl d_Tb_would_40 ?_
    refine z_callVp0 (m_Gr_decode hs0 hst hg9 hq9) ym_Gr_decode qM_Tb_188 qI_Gr_decode qV_Gr_Gr_decode zc_Gr hT3.gr d_Tb_would_43 rfl (Nat.le_of_ble_eq_true rfl) ⟨by decide, by decide⟩ ⟨Nat.le_of_ble_eq_true rfl, Nat.le_of_ble_eq_true rfl⟩ (fun r_43 G_43 hp_43 => ?_)
    obtain ⟨hr_43, hg_43⟩ := hp_43
    obtain rfl : r_43 = none := hr_43
    obtain ⟨V4, hT4, hK4, hF4⟩ := hT3.putg (V3 12 0) _ _ (p := nI q9) ⟨q9, hq9, rfl⟩
    rw [← hg_43] at hT4 hF4
    refine z_aload_n 1 d_Tb_would_46 rfl rfl ?_
    refine z_aload 0 d_Tb_would_47 rfl ?_
    refine z_iload_n 4 d_Tb_would_49 rfl rfl ?_
    refine z_callVp0 (m_Tb_tellOfGroup hs0 hst hT4 hsi w) ym_Tb_tellOfGroup qM_Tb_283 qI_Tb_tellOfGroup qV_Tb_Tb_tellOfGroup zc_Tb (by first | exact hT4.tb | exact hT3.tb | exact hT.tb) d_Tb_would_50 rfl (Nat.le_of_ble_eq_true rfl) ⟨by decide, by decide⟩ ⟨Nat.le_of_ble_eq_true rfl, Nat.le_of_ble_eq_true rfl⟩ (fun r_50 G_50 hp_50 => ?_)
    obtain ⟨⟨v_50, rfl⟩, rfl⟩ := hp_50
    exact z_iret rfl (⟨⟨_, rfl⟩, D3, V4, hT4, hK3.tr hK4, hF3.tr hF4⟩) (by first | decide | omega) (by first | decide | omega) d_Tb_would_53
  · skip
    exact z_thSW (names := ["java/lang/RuntimeException", "java/lang/Exception"]) (by decide) (by decide) qK_Tb_61 qN_IAE qR_Tb_281 th_65.1 th_65.2 d_Tb_would_21 d_Tb_would_24 d_Tb_would_25 d_Tb_would_28 d_Tb_would_31 (by decide) (Nat.le_of_ble_eq_true rfl) ⟨by decide, by decide⟩ (⟨by simp, D, V, hT, zKo.rf, zFr.rf⟩) (by decide) (by decide)
