
/-- .. with one of these thrown -/
def zTx (d : zD) (A : Nat → Nat) (nk ns : Nat) (V : Nat → Nat → Int32) (G : zG) (es : List String) : String → zG → Prop := fun E G1 => E ∈ es ∧ ∃ D' V', zT d A D' V' nk ns G1 ∧ zKo V V' ∧ tFr A nk ns G G1
theorem th_165b : (∀ w ∈ vx_atS "Threeboxes" 165 "java/lang/IndexOutOfBoundsException" ["java/lang/RuntimeException", "java/lang/Exception"], w ∈ lw_tbl) := th_165.1

theorem d_Tb_ofKeeper_0 : decode c_Tb_ofKeeper 0 = .ok (.aload_n 0, 1) := by decide +kernel
theorem d_Tb_ofKeeper_1 : decode c_Tb_ofKeeper 1 = .ok (.iload_n 1, 1) := by decide +kernel
theorem d_Tb_ofKeeper_2 : decode c_Tb_ofKeeper 2 = .ok (.invokevirtual 86, 3) := by decide +kernel
theorem d_Tb_ofKeeper_5 : decode c_Tb_ofKeeper 5 = .ok (.astore_n 3, 1) := by decide +kernel
theorem d_Tb_ofKeeper_6 : decode c_Tb_ofKeeper 6 = .ok (.iload_n 2, 1) := by decide +kernel
theorem d_Tb_ofKeeper_7 : decode c_Tb_ofKeeper 7 = .ok (.iconst 0, 1) := by decide +kernel
theorem d_Tb_ofKeeper_8 : decode c_Tb_ofKeeper 8 = .ok (.bipush 6, 2) := by decide +kernel
theorem d_Tb_ofKeeper_10 : decode c_Tb_ofKeeper 10 = .ok (.invokestatic 57, 3) := by decide +kernel
theorem d_Tb_ofKeeper_13 : decode c_Tb_ofKeeper 13 = .ok (.ifCond .ne 13, 3) := by decide +kernel
theorem d_Tb_ofKeeper_16 : decode c_Tb_ofKeeper 16 = .ok (.new 61, 3) := by decide +kernel
theorem d_Tb_ofKeeper_19 : decode c_Tb_ofKeeper 19 = .ok (.dup, 1) := by decide +kernel
theorem d_Tb_ofKeeper_20 : decode c_Tb_ofKeeper 20 = .ok (.ldc 230, 2) := by decide +kernel
theorem d_Tb_ofKeeper_22 : decode c_Tb_ofKeeper 22 = .ok (.invokespecial 65, 3) := by decide +kernel
theorem d_Tb_ofKeeper_25 : decode c_Tb_ofKeeper 25 = .ok (.athrow, 1) := by decide +kernel
theorem d_Tb_ofKeeper_26 : decode c_Tb_ofKeeper 26 = .ok (.aload_n 0, 1) := by decide +kernel
theorem d_Tb_ofKeeper_27 : decode c_Tb_ofKeeper 27 = .ok (.aload_n 3, 1) := by decide +kernel
theorem d_Tb_ofKeeper_28 : decode c_Tb_ofKeeper 28 = .ok (.iload_n 2, 1) := by decide +kernel
theorem d_Tb_ofKeeper_29 : decode c_Tb_ofKeeper 29 = .ok (.invokevirtual 232, 3) := by decide +kernel
theorem d_Tb_ofKeeper_32 : decode c_Tb_ofKeeper 32 = .ok (.ireturn, 1) := by decide +kernel
set_option maxHeartbeats 4000000 in
set_option maxRecDepth 100000 in
theorem m_Tb_ofKeeper {g0 : State} {d : zD} {l : Launch} {a0 : Array Value} (hs0 : zS0 d a0 g0) (hst : l.stackTraces = false) {G : zG} {A : Nat → Nat} {D : Nat → UInt64} {V : Nat → Nat → Int32} {nk ns : Nat} (hT : zT d A D V nk ns G) (x w : Int32) : zMet g0 d l y_Tb_ofKeeper c_Tb_ofKeeper 4 ((Option.some Jvm.ClassFile.FieldType.int)) 13 2 12 [.ref (A 0), .int x, .int w] (G) (zTu d A nk ns V G zrI) (zTx d A nk ns V G ["java/lang/IllegalArgumentException", "java/lang/IndexOutOfBoundsException"]) := by
  have hG_Tb := hT.tb
  have hnk : nk ≤ 8 := hT.2.1
  have hns : ns ≤ 6 := hT.2.2.1
  refine z_entry hs0 hst (by decide) (Nat.le_of_ble_eq_true rfl) (fun p e s m args below meth c => ?_)
  refine z_aload_n 0 d_Tb_ofKeeper_0 rfl rfl ?_
  refine z_iload_n 1 d_Tb_ofKeeper_1 rfl rfl ?_
  refine z_callV (m_Tb_keeperAt hs0 hst hT x) ym_Tb_keeperAt qM_Tb_86 qI_Tb_keeperAt qV_Tb_Tb_keeperAt zc_Tb hG_Tb d_Tb_ofKeeper_2 rfl (Nat.le_of_ble_eq_true rfl) ⟨by decide, by decide⟩ ⟨Nat.le_of_ble_eq_true rfl, Nat.le_of_ble_eq_true rfl⟩ ?_ ?_
  · exact fun E G9 hx => by
      obtain ⟨hx1, rfl, hx3⟩ := hx
      obtain rfl : G = G9 := hx3.symm
      exact z_out ⟨by simp, D, V, hT, zKo.rf, zFr.rf⟩ (by decide) (by decide)
  intro r_2 G_2 hp_2
  obtain ⟨ki, hki, rfl, rfl, hg_2⟩ := hp_2
  obtain rfl : G = G_2 := hg_2.symm
  refine z_astore_n (L' := [(3, _), (0, _), (1, _), (2, _)]) d_Tb_ofKeeper_5 rfl (by decide) rfl ?_
  refine z_iload_n 3 d_Tb_ofKeeper_6 rfl rfl ?_
  refine z_iconst (v := 0) d_Tb_ofKeeper_7 (by decide) ?_
  refine z_bipush (v := 6) d_Tb_ofKeeper_8 (by decide) ?_
  refine z_callS0 (m_Tb_isFrom hs0 hst w 0 _) ym_Tb_isFrom qM_Tb_57 qS_Tb_isFrom d_Tb_ofKeeper_10 rfl (Nat.le_of_ble_eq_true rfl) ⟨by decide, by decide⟩ ⟨Nat.le_of_ble_eq_true rfl, Nat.le_of_ble_eq_true rfl⟩ ?_
  refine z_if_ne 26 d_Tb_ofKeeper_13 (by decide) (fun c_13 => ?_) (fun c_13 => ?_)
  · skip
    refine z_aload_n 1 d_Tb_ofKeeper_26 rfl rfl ?_
    refine z_aload_n 0 d_Tb_ofKeeper_27 rfl rfl ?_
    refine z_iload_n 3 d_Tb_ofKeeper_28 rfl rfl ?_
    refine z_callVp0 (m_Tb_tellOfKeeper hs0 hst hT hki w) ym_Tb_tellOfKeeper qM_Tb_232 qI_Tb_tellOfKeeper qV_Tb_Tb_tellOfKeeper zc_Tb hG_Tb d_Tb_ofKeeper_29 rfl (Nat.le_of_ble_eq_true rfl) ⟨by decide, by decide⟩ ⟨Nat.le_of_ble_eq_true rfl, Nat.le_of_ble_eq_true rfl⟩ (fun r_29 G_29 hp_29 => ?_)
    obtain ⟨⟨v_29, rfl⟩, rfl⟩ := hp_29
    exact z_iret rfl (⟨⟨_, rfl⟩, D, V, hT, zKo.rf, zFr.rf⟩) (by first | decide | omega) (by first | decide | omega) d_Tb_ofKeeper_32
  · skip
    exact z_thS (names := ["java/lang/RuntimeException", "java/lang/Exception"]) (by decide) (by decide) qK_Tb_61 qN_IAE qR_Tb_230 th_65.1 th_65.2 d_Tb_ofKeeper_16 d_Tb_ofKeeper_19 d_Tb_ofKeeper_20 d_Tb_ofKeeper_22 d_Tb_ofKeeper_25 (by decide) (Nat.le_of_ble_eq_true rfl) ⟨by decide, by decide⟩ (⟨by simp, D, V, hT, zKo.rf, zFr.rf⟩) (by decide) (by decide)
theorem d_Tb_ofSecret_0 : decode c_Tb_ofSecret 0 = .ok (.aload_n 0, 1) := by decide +kernel
theorem d_Tb_ofSecret_1 : decode c_Tb_ofSecret 1 = .ok (.iload_n 1, 1) := by decide +kernel
theorem d_Tb_ofSecret_2 : decode c_Tb_ofSecret 2 = .ok (.invokevirtual 140, 3) := by decide +kernel
theorem d_Tb_ofSecret_5 : decode c_Tb_ofSecret 5 = .ok (.astore_n 3, 1) := by decide +kernel
theorem d_Tb_ofSecret_6 : decode c_Tb_ofSecret 6 = .ok (.iload_n 2, 1) := by decide +kernel
theorem d_Tb_ofSecret_7 : decode c_Tb_ofSecret 7 = .ok (.iconst 0, 1) := by decide +kernel
theorem d_Tb_ofSecret_8 : decode c_Tb_ofSecret 8 = .ok (.bipush 8, 2) := by decide +kernel
theorem d_Tb_ofSecret_10 : decode c_Tb_ofSecret 10 = .ok (.invokestatic 57, 3) := by decide +kernel
theorem d_Tb_ofSecret_13 : decode c_Tb_ofSecret 13 = .ok (.ifCond .ne 13, 3) := by decide +kernel
theorem d_Tb_ofSecret_16 : decode c_Tb_ofSecret 16 = .ok (.new 61, 3) := by decide +kernel
theorem d_Tb_ofSecret_19 : decode c_Tb_ofSecret 19 = .ok (.dup, 1) := by decide +kernel
theorem d_Tb_ofSecret_20 : decode c_Tb_ofSecret 20 = .ok (.ldc 236, 2) := by decide +kernel
theorem d_Tb_ofSecret_22 : decode c_Tb_ofSecret 22 = .ok (.invokespecial 65, 3) := by decide +kernel
theorem d_Tb_ofSecret_25 : decode c_Tb_ofSecret 25 = .ok (.athrow, 1) := by decide +kernel
theorem d_Tb_ofSecret_26 : decode c_Tb_ofSecret 26 = .ok (.aload_n 0, 1) := by decide +kernel
theorem d_Tb_ofSecret_27 : decode c_Tb_ofSecret 27 = .ok (.aload_n 3, 1) := by decide +kernel
theorem d_Tb_ofSecret_28 : decode c_Tb_ofSecret 28 = .ok (.iload_n 2, 1) := by decide +kernel
theorem d_Tb_ofSecret_29 : decode c_Tb_ofSecret 29 = .ok (.invokevirtual 238, 3) := by decide +kernel
theorem d_Tb_ofSecret_32 : decode c_Tb_ofSecret 32 = .ok (.ireturn, 1) := by decide +kernel
set_option maxHeartbeats 4000000 in
set_option maxRecDepth 100000 in
theorem m_Tb_ofSecret {g0 : State} {d : zD} {l : Launch} {a0 : Array Value} (hs0 : zS0 d a0 g0) (hst : l.stackTraces = false) {G : zG} {A : Nat → Nat} {D : Nat → UInt64} {V : Nat → Nat → Int32} {nk ns : Nat} (hT : zT d A D V nk ns G) (x w : Int32) : zMet g0 d l y_Tb_ofSecret c_Tb_ofSecret 4 ((Option.some Jvm.ClassFile.FieldType.int)) 15 2 12 [.ref (A 0), .int x, .int w] (G) (zTu d A nk ns V G zrI) (zTx d A nk ns V G ["java/lang/IllegalArgumentException", "java/lang/IndexOutOfBoundsException"]) := by
  have hG_Tb := hT.tb
  have hnk : nk ≤ 8 := hT.2.1
  have hns : ns ≤ 6 := hT.2.2.1
  refine z_entry hs0 hst (by decide) (Nat.le_of_ble_eq_true rfl) (fun p e s m args below meth c => ?_)
  refine z_aload_n 0 d_Tb_ofSecret_0 rfl rfl ?_
  refine z_iload_n 1 d_Tb_ofSecret_1 rfl rfl ?_
  refine z_callV (m_Tb_secretAt hs0 hst hT x) ym_Tb_secretAt qM_Tb_140 qI_Tb_secretAt qV_Tb_Tb_secretAt zc_Tb hG_Tb d_Tb_ofSecret_2 rfl (Nat.le_of_ble_eq_true rfl) ⟨by decide, by decide⟩ ⟨Nat.le_of_ble_eq_true rfl, Nat.le_of_ble_eq_true rfl⟩ ?_ ?_
  · exact fun E G9 hx => by
      obtain ⟨hx1, rfl, hx3⟩ := hx
      obtain rfl : G = G9 := hx3.symm
      exact z_out ⟨by simp, D, V, hT, zKo.rf, zFr.rf⟩ (by decide) (by decide)
  intro r_2 G_2 hp_2
  obtain ⟨si, hsi, rfl, rfl, hg_2⟩ := hp_2
  obtain rfl : G = G_2 := hg_2.symm
  refine z_astore_n (L' := [(3, _), (0, _), (1, _), (2, _)]) d_Tb_ofSecret_5 rfl (by decide) rfl ?_
  refine z_iload_n 3 d_Tb_ofSecret_6 rfl rfl ?_
  refine z_iconst (v := 0) d_Tb_ofSecret_7 (by decide) ?_
  refine z_bipush (v := 8) d_Tb_ofSecret_8 (by decide) ?_
  refine z_callS0 (m_Tb_isFrom hs0 hst w 0 _) ym_Tb_isFrom qM_Tb_57 qS_Tb_isFrom d_Tb_ofSecret_10 rfl (Nat.le_of_ble_eq_true rfl) ⟨by decide, by decide⟩ ⟨Nat.le_of_ble_eq_true rfl, Nat.le_of_ble_eq_true rfl⟩ ?_
  refine z_if_ne 26 d_Tb_ofSecret_13 (by decide) (fun c_13 => ?_) (fun c_13 => ?_)
  · skip
    refine z_aload_n 1 d_Tb_ofSecret_26 rfl rfl ?_
    refine z_aload_n 0 d_Tb_ofSecret_27 rfl rfl ?_
    refine z_iload_n 3 d_Tb_ofSecret_28 rfl rfl ?_
    refine z_callVp0 (m_Tb_tellOfSecret hs0 hst hT hsi w) ym_Tb_tellOfSecret qM_Tb_238 qI_Tb_tellOfSecret qV_Tb_Tb_tellOfSecret zc_Tb hG_Tb d_Tb_ofSecret_29 rfl (Nat.le_of_ble_eq_true rfl) ⟨by decide, by decide⟩ ⟨Nat.le_of_ble_eq_true rfl, Nat.le_of_ble_eq_true rfl⟩ (fun r_29 G_29 hp_29 => ?_)
    obtain ⟨⟨v_29, rfl⟩, rfl⟩ := hp_29
    exact z_iret rfl (⟨⟨_, rfl⟩, D, V, hT, zKo.rf, zFr.rf⟩) (by first | decide | omega) (by first | decide | omega) d_Tb_ofSecret_32
  · skip
    exact z_thS (names := ["java/lang/RuntimeException", "java/lang/Exception"]) (by decide) (by decide) qK_Tb_61 qN_IAE qR_Tb_236 th_65.1 th_65.2 d_Tb_ofSecret_16 d_Tb_ofSecret_19 d_Tb_ofSecret_20 d_Tb_ofSecret_22 d_Tb_ofSecret_25 (by decide) (Nat.le_of_ble_eq_true rfl) ⟨by decide, by decide⟩ (⟨by simp, D, V, hT, zKo.rf, zFr.rf⟩) (by decide) (by decide)
theorem d_Tb_share_0 : decode c_Tb_share 0 = .ok (.aload_n 0, 1) := by decide +kernel
theorem d_Tb_share_1 : decode c_Tb_share 1 = .ok (.iload_n 1, 1) := by decide +kernel
theorem d_Tb_share_2 : decode c_Tb_share 2 = .ok (.invokevirtual 140, 3) := by decide +kernel
theorem d_Tb_share_5 : decode c_Tb_share 5 = .ok (.astore 4, 2) := by decide +kernel
theorem d_Tb_share_7 : decode c_Tb_share 7 = .ok (.aload_n 0, 1) := by decide +kernel
theorem d_Tb_share_8 : decode c_Tb_share 8 = .ok (.iload_n 2, 1) := by decide +kernel
theorem d_Tb_share_9 : decode c_Tb_share 9 = .ok (.invokevirtual 86, 3) := by decide +kernel
theorem d_Tb_share_12 : decode c_Tb_share 12 = .ok (.astore 5, 2) := by decide +kernel
theorem d_Tb_share_14 : decode c_Tb_share 14 = .ok (.iload_n 3, 1) := by decide +kernel
theorem d_Tb_share_15 : decode c_Tb_share 15 = .ok (.iconst 0, 1) := by decide +kernel
theorem d_Tb_share_16 : decode c_Tb_share 16 = .ok (.iconst 2, 1) := by decide +kernel
theorem d_Tb_share_17 : decode c_Tb_share 17 = .ok (.invokestatic 57, 3) := by decide +kernel
theorem d_Tb_share_20 : decode c_Tb_share 20 = .ok (.ifCond .ne 13, 3) := by decide +kernel
theorem d_Tb_share_23 : decode c_Tb_share 23 = .ok (.new 61, 3) := by decide +kernel
theorem d_Tb_share_26 : decode c_Tb_share 26 = .ok (.dup, 1) := by decide +kernel
theorem d_Tb_share_27 : decode c_Tb_share 27 = .ok (.ldc 242, 2) := by decide +kernel
theorem d_Tb_share_29 : decode c_Tb_share 29 = .ok (.invokespecial 65, 3) := by decide +kernel
theorem d_Tb_share_32 : decode c_Tb_share 32 = .ok (.athrow, 1) := by decide +kernel
theorem d_Tb_share_33 : decode c_Tb_share 33 = .ok (.aload_n 0, 1) := by decide +kernel
theorem d_Tb_share_34 : decode c_Tb_share 34 = .ok (.aload 4, 2) := by decide +kernel
theorem d_Tb_share_36 : decode c_Tb_share 36 = .ok (.aload 5, 2) := by decide +kernel
theorem d_Tb_share_38 : decode c_Tb_share 38 = .ok (.iload_n 3, 1) := by decide +kernel
theorem d_Tb_share_39 : decode c_Tb_share 39 = .ok (.invokevirtual 244, 3) := by decide +kernel
theorem d_Tb_share_42 : decode c_Tb_share 42 = .ok (.ireturn, 1) := by decide +kernel
set_option maxHeartbeats 4000000 in
set_option maxRecDepth 100000 in
theorem m_Tb_share {g0 : State} {d : zD} {l : Launch} {a0 : Array Value} (hs0 : zS0 d a0 g0) (hst : l.stackTraces = false) {G : zG} {A : Nat → Nat} {D : Nat → UInt64} {V : Nat → Nat → Int32} {nk ns : Nat} (hT : zT d A D V nk ns G) (x z w : Int32) : zMet g0 d l y_Tb_share c_Tb_share 6 ((Option.some Jvm.ClassFile.FieldType.int)) 12 3 18 [.ref (A 0), .int x, .int z, .int w] (G) (zTu d A nk ns V G zrI) (zTx d A nk ns V G ["java/lang/IllegalArgumentException", "java/lang/IndexOutOfBoundsException"]) := by
  have hG_Tb := hT.tb
  have hnk : nk ≤ 8 := hT.2.1
  have hns : ns ≤ 6 := hT.2.2.1
  refine z_entry hs0 hst (by decide) (Nat.le_of_ble_eq_true rfl) (fun p e s m args below meth c => ?_)
  refine z_aload_n 0 d_Tb_share_0 rfl rfl ?_
  refine z_iload_n 1 d_Tb_share_1 rfl rfl ?_
  refine z_callV (m_Tb_secretAt hs0 hst hT x) ym_Tb_secretAt qM_Tb_140 qI_Tb_secretAt qV_Tb_Tb_secretAt zc_Tb hG_Tb d_Tb_share_2 rfl (Nat.le_of_ble_eq_true rfl) ⟨by decide, by decide⟩ ⟨Nat.le_of_ble_eq_true rfl, Nat.le_of_ble_eq_true rfl⟩ ?_ ?_
  · exact fun E G9 hx => by
      obtain ⟨hx1, rfl, hx3⟩ := hx
      obtain rfl : G = G9 := hx3.symm
      exact z_out ⟨by simp, D, V, hT, zKo.rf, zFr.rf⟩ (by decide) (by decide)
  intro r_2 G_2 hp_2
  obtain ⟨si, hsi, rfl, rfl, hg_2⟩ := hp_2
  obtain rfl : G = G_2 := hg_2.symm
  refine z_astore (L' := [(4, _), (0, _), (1, _), (2, _), (3, _)]) d_Tb_share_5 (by decide) rfl ?_
  refine z_aload_n 1 d_Tb_share_7 rfl rfl ?_
  refine z_iload_n 3 d_Tb_share_8 rfl rfl ?_
  refine z_callV (m_Tb_keeperAt hs0 hst hT z) ym_Tb_keeperAt qM_Tb_86 qI_Tb_keeperAt qV_Tb_Tb_keeperAt zc_Tb hG_Tb d_Tb_share_9 rfl (Nat.le_of_ble_eq_true rfl) ⟨by decide, by decide⟩ ⟨Nat.le_of_ble_eq_true rfl, Nat.le_of_ble_eq_true rfl⟩ ?_ ?_
  · exact fun E G9 hx => by
      obtain ⟨hx1, rfl, hx3⟩ := hx
      obtain rfl : G = G9 := hx3.symm
      exact z_out ⟨by simp, D, V, hT, zKo.rf, zFr.rf⟩ (by decide) (by decide)
  intro r_9 G_9 hp_9
  obtain ⟨ki, hki, rfl, rfl, hg_9⟩ := hp_9
  obtain rfl : G = G_9 := hg_9.symm
  refine z_astore (L' := [(5, _), (4, _), (0, _), (1, _), (2, _), (3, _)]) d_Tb_share_12 (by decide) rfl ?_
  refine z_iload_n 5 d_Tb_share_14 rfl rfl ?_
  refine z_iconst (v := 0) d_Tb_share_15 (by decide) ?_
  refine z_iconst (v := 2) d_Tb_share_16 (by decide) ?_
  refine z_callS0 (m_Tb_isFrom hs0 hst w 0 _) ym_Tb_isFrom qM_Tb_57 qS_Tb_isFrom d_Tb_share_17 rfl (Nat.le_of_ble_eq_true rfl) ⟨by decide, by decide⟩ ⟨Nat.le_of_ble_eq_true rfl, Nat.le_of_ble_eq_true rfl⟩ ?_
  refine z_if_ne 33 d_Tb_share_20 (by decide) (fun c_20 => ?_) (fun c_20 => ?_)
  · skip
    refine z_aload_n 2 d_Tb_share_33 rfl rfl ?_
    refine z_aload 1 d_Tb_share_34 rfl ?_
    refine z_aload 0 d_Tb_share_36 rfl ?_
    refine z_iload_n 5 d_Tb_share_38 rfl rfl ?_
    refine z_callVp0 (m_Tb_tellOfShare hs0 hst hT hsi hki w) ym_Tb_tellOfShare qM_Tb_244 qI_Tb_tellOfShare qV_Tb_Tb_tellOfShare zc_Tb hG_Tb d_Tb_share_39 rfl (Nat.le_of_ble_eq_true rfl) ⟨by decide, by decide⟩ ⟨Nat.le_of_ble_eq_true rfl, Nat.le_of_ble_eq_true rfl⟩ (fun r_39 G_39 hp_39 => ?_)
    obtain ⟨⟨v_39, rfl⟩, rfl⟩ := hp_39
    exact z_iret rfl (⟨⟨_, rfl⟩, D, V, hT, zKo.rf, zFr.rf⟩) (by first | decide | omega) (by first | decide | omega) d_Tb_share_42
  · skip
    exact z_thS (names := ["java/lang/RuntimeException", "java/lang/Exception"]) (by decide) (by decide) qK_Tb_61 qN_IAE qR_Tb_242 th_65.1 th_65.2 d_Tb_share_23 d_Tb_share_26 d_Tb_share_27 d_Tb_share_29 d_Tb_share_32 (by decide) (Nat.le_of_ble_eq_true rfl) ⟨by decide, by decide⟩ (⟨by simp, D, V, hT, zKo.rf, zFr.rf⟩) (by decide) (by decide)
theorem d_Tb_bank_0 : decode c_Tb_bank 0 = .ok (.iload_n 1, 1) := by decide +kernel
theorem d_Tb_bank_1 : decode c_Tb_bank 1 = .ok (.iconst 0, 1) := by decide +kernel
theorem d_Tb_bank_2 : decode c_Tb_bank 2 = .ok (.bipush 11, 2) := by decide +kernel
theorem d_Tb_bank_4 : decode c_Tb_bank 4 = .ok (.invokestatic 57, 3) := by decide +kernel
theorem d_Tb_bank_7 : decode c_Tb_bank 7 = .ok (.ifCond .ne 13, 3) := by decide +kernel
theorem d_Tb_bank_10 : decode c_Tb_bank 10 = .ok (.new 61, 3) := by decide +kernel
theorem d_Tb_bank_13 : decode c_Tb_bank 13 = .ok (.dup, 1) := by decide +kernel
theorem d_Tb_bank_14 : decode c_Tb_bank 14 = .ok (.ldc 248, 2) := by decide +kernel
theorem d_Tb_bank_16 : decode c_Tb_bank 16 = .ok (.invokespecial 65, 3) := by decide +kernel
theorem d_Tb_bank_19 : decode c_Tb_bank 19 = .ok (.athrow, 1) := by decide +kernel
theorem d_Tb_bank_20 : decode c_Tb_bank 20 = .ok (.aload_n 0, 1) := by decide +kernel
theorem d_Tb_bank_21 : decode c_Tb_bank 21 = .ok (.iload_n 1, 1) := by decide +kernel
theorem d_Tb_bank_22 : decode c_Tb_bank 22 = .ok (.invokevirtual 250, 3) := by decide +kernel
theorem d_Tb_bank_25 : decode c_Tb_bank 25 = .ok (.ireturn, 1) := by decide +kernel
set_option maxHeartbeats 4000000 in
set_option maxRecDepth 100000 in
theorem m_Tb_bank {g0 : State} {d : zD} {l : Launch} {a0 : Array Value} (hs0 : zS0 d a0 g0) (hst : l.stackTraces = false) {G : zG} {A : Nat → Nat} {D : Nat → UInt64} {V : Nat → Nat → Int32} {nk ns : Nat} (hT : zT d A D V nk ns G) (w : Int32) : zMet g0 d l y_Tb_bank c_Tb_bank 2 ((Option.some Jvm.ClassFile.FieldType.int)) 13 1 6 [.ref (A 0), .int w] (G) (zTu d A nk ns V G zrI) (zTx d A nk ns V G ["java/lang/IllegalArgumentException"]) := by
  have hG_Tb := hT.tb
  have hnk : nk ≤ 8 := hT.2.1
  have hns : ns ≤ 6 := hT.2.2.1
  refine z_entry hs0 hst (by decide) (Nat.le_of_ble_eq_true rfl) (fun p e s m args below meth c => ?_)
  refine z_iload_n 1 d_Tb_bank_0 rfl rfl ?_
  refine z_iconst (v := 0) d_Tb_bank_1 (by decide) ?_
  refine z_bipush (v := 11) d_Tb_bank_2 (by decide) ?_
  refine z_callS0 (m_Tb_isFrom hs0 hst w 0 _) ym_Tb_isFrom qM_Tb_57 qS_Tb_isFrom d_Tb_bank_4 rfl (Nat.le_of_ble_eq_true rfl) ⟨by decide, by decide⟩ ⟨Nat.le_of_ble_eq_true rfl, Nat.le_of_ble_eq_true rfl⟩ ?_
  refine z_if_ne 20 d_Tb_bank_7 (by decide) (fun c_7 => ?_) (fun c_7 => ?_)
  · skip
    refine z_aload_n 0 d_Tb_bank_20 rfl rfl ?_
    refine z_iload_n 1 d_Tb_bank_21 rfl rfl ?_
    refine z_callVp0 (m_Tb_tellOfBank hs0 hst hT w) ym_Tb_tellOfBank qM_Tb_250 qI_Tb_tellOfBank qV_Tb_Tb_tellOfBank zc_Tb hG_Tb d_Tb_bank_22 rfl (Nat.le_of_ble_eq_true rfl) ⟨by decide, by decide⟩ ⟨Nat.le_of_ble_eq_true rfl, Nat.le_of_ble_eq_true rfl⟩ (fun r_22 G_22 hp_22 => ?_)
    obtain ⟨⟨v_22, rfl⟩, rfl⟩ := hp_22
    exact z_iret rfl (⟨⟨_, rfl⟩, D, V, hT, zKo.rf, zFr.rf⟩) (by first | decide | omega) (by first | decide | omega) d_Tb_bank_25
  · skip
    exact z_thS (names := ["java/lang/RuntimeException", "java/lang/Exception"]) (by decide) (by decide) qK_Tb_61 qN_IAE qR_Tb_248 th_65.1 th_65.2 d_Tb_bank_10 d_Tb_bank_13 d_Tb_bank_14 d_Tb_bank_16 d_Tb_bank_19 (by decide) (Nat.le_of_ble_eq_true rfl) ⟨by decide, by decide⟩ (⟨by simp, D, V, hT, zKo.rf, zFr.rf⟩) (by decide) (by decide)
theorem d_Tb_ofEntry_0 : decode c_Tb_ofEntry 0 = .ok (.aload_n 0, 1) := by decide +kernel
theorem d_Tb_ofEntry_1 : decode c_Tb_ofEntry 1 = .ok (.iload_n 1, 1) := by decide +kernel
theorem d_Tb_ofEntry_2 : decode c_Tb_ofEntry 2 = .ok (.invokevirtual 253, 3) := by decide +kernel
theorem d_Tb_ofEntry_5 : decode c_Tb_ofEntry 5 = .ok (.iload_n 2, 1) := by decide +kernel
theorem d_Tb_ofEntry_6 : decode c_Tb_ofEntry 6 = .ok (.iconst 0, 1) := by decide +kernel
theorem d_Tb_ofEntry_7 : decode c_Tb_ofEntry 7 = .ok (.iconst 3, 1) := by decide +kernel
theorem d_Tb_ofEntry_8 : decode c_Tb_ofEntry 8 = .ok (.invokestatic 57, 3) := by decide +kernel
theorem d_Tb_ofEntry_11 : decode c_Tb_ofEntry 11 = .ok (.ifCond .ne 14, 3) := by decide +kernel
theorem d_Tb_ofEntry_14 : decode c_Tb_ofEntry 14 = .ok (.new 61, 3) := by decide +kernel
theorem d_Tb_ofEntry_17 : decode c_Tb_ofEntry 17 = .ok (.dup, 1) := by decide +kernel
theorem d_Tb_ofEntry_18 : decode c_Tb_ofEntry 18 = .ok (.ldc_w 256, 3) := by decide +kernel
theorem d_Tb_ofEntry_21 : decode c_Tb_ofEntry 21 = .ok (.invokespecial 65, 3) := by decide +kernel
theorem d_Tb_ofEntry_24 : decode c_Tb_ofEntry 24 = .ok (.athrow, 1) := by decide +kernel
theorem d_Tb_ofEntry_25 : decode c_Tb_ofEntry 25 = .ok (.aload_n 0, 1) := by decide +kernel
theorem d_Tb_ofEntry_26 : decode c_Tb_ofEntry 26 = .ok (.getfield 22, 3) := by decide +kernel
theorem d_Tb_ofEntry_29 : decode c_Tb_ofEntry 29 = .ok (.iload_n 1, 1) := by decide +kernel
theorem d_Tb_ofEntry_30 : decode c_Tb_ofEntry 30 = .ok (.iload_n 2, 1) := by decide +kernel
theorem d_Tb_ofEntry_31 : decode c_Tb_ofEntry 31 = .ok (.invokevirtual 258, 3) := by decide +kernel
theorem d_Tb_ofEntry_34 : decode c_Tb_ofEntry 34 = .ok (.ireturn, 1) := by decide +kernel
set_option maxHeartbeats 4000000 in
set_option maxRecDepth 100000 in
theorem m_Tb_ofEntry {g0 : State} {d : zD} {l : Launch} {a0 : Array Value} (hs0 : zS0 d a0 g0) (hst : l.stackTraces = false) {G : zG} {A : Nat → Nat} {D : Nat → UInt64} {V : Nat → Nat → Int32} {nk ns : Nat} (hT : zT d A D V nk ns G) (x w : Int32) : zMet g0 d l y_Tb_ofEntry c_Tb_ofEntry 3 ((Option.some Jvm.ClassFile.FieldType.int)) 9 2 12 [.ref (A 0), .int x, .int w] (G) (zTu d A nk ns V G zrI) (zTx d A nk ns V G ["java/lang/IllegalArgumentException", "java/lang/IndexOutOfBoundsException"]) := by
  have hG_Tb := hT.tb
  have hnk : nk ≤ 8 := hT.2.1
  have hns : ns ≤ 6 := hT.2.2.1
  refine z_entry hs0 hst (by decide) (Nat.le_of_ble_eq_true rfl) (fun p e s m args below meth c => ?_)
  refine z_aload_n 0 d_Tb_ofEntry_0 rfl rfl ?_
  refine z_iload_n 1 d_Tb_ofEntry_1 rfl rfl ?_
  refine z_callV (m_Tb_needEntry hs0 hst hT x) ym_Tb_needEntry qM_Tb_253 qI_Tb_needEntry qV_Tb_Tb_needEntry zc_Tb hG_Tb d_Tb_ofEntry_2 rfl (Nat.le_of_ble_eq_true rfl) ⟨by decide, by decide⟩ ⟨Nat.le_of_ble_eq_true rfl, Nat.le_of_ble_eq_true rfl⟩ ?_ ?_
  · exact fun E G9 hx => by
      obtain ⟨hx1, rfl, hx3⟩ := hx
      obtain rfl : G = G9 := hx3.symm
      exact z_out ⟨by simp, D, V, hT, zKo.rf, zFr.rf⟩ (by decide) (by decide)
  intro r_2 G_2 hp_2
  obtain ⟨hs_2, hr_2, hg_2⟩ := hp_2
  obtain rfl : r_2 = none := hr_2
  obtain rfl : G = G_2 := hg_2.symm
  refine z_iload_n 2 d_Tb_ofEntry_5 rfl rfl ?_
  refine z_iconst (v := 0) d_Tb_ofEntry_6 (by decide) ?_
  refine z_iconst (v := 3) d_Tb_ofEntry_7 (by decide) ?_
  refine z_callS0 (m_Tb_isFrom hs0 hst w 0 _) ym_Tb_isFrom qM_Tb_57 qS_Tb_isFrom d_Tb_ofEntry_8 rfl (Nat.le_of_ble_eq_true rfl) ⟨by decide, by decide⟩ ⟨Nat.le_of_ble_eq_true rfl, Nat.le_of_ble_eq_true rfl⟩ ?_
  refine z_if_ne 25 d_Tb_ofEntry_11 (by decide) (fun c_11 => ?_) (fun c_11 => ?_)
  · skip
    refine z_aload_n 0 d_Tb_ofEntry_25 rfl rfl ?_
    refine z_get zc_Tb 2 (by decide) qF_Tb_22 hG_Tb rfl d_Tb_ofEntry_26 ?_
    refine z_iload_n 1 d_Tb_ofEntry_29 rfl rfl ?_
    refine z_iload_n 2 d_Tb_ofEntry_30 rfl rfl ?_
    refine z_callV0 (m_Re_tell hs0 hst hT.rA x w) ym_Re_tell qM_Tb_258 qI_Re_tell qV_Re_Re_tell zc_Re hT.re d_Tb_ofEntry_31 rfl (Nat.le_of_ble_eq_true rfl) ⟨by decide, by decide⟩ ⟨Nat.le_of_ble_eq_true rfl, Nat.le_of_ble_eq_true rfl⟩ ?_
    exact z_iret rfl (⟨⟨_, rfl⟩, D, V, hT, zKo.rf, zFr.rf⟩) (by first | decide | omega) (by first | decide | omega) d_Tb_ofEntry_34
  · skip
    exact z_thSW (names := ["java/lang/RuntimeException", "java/lang/Exception"]) (by decide) (by decide) qK_Tb_61 qN_IAE qR_Tb_256 th_65.1 th_65.2 d_Tb_ofEntry_14 d_Tb_ofEntry_17 d_Tb_ofEntry_18 d_Tb_ofEntry_21 d_Tb_ofEntry_24 (by decide) (Nat.le_of_ble_eq_true rfl) ⟨by decide, by decide⟩ (⟨by simp, D, V, hT, zKo.rf, zFr.rf⟩) (by decide) (by decide)
theorem d_Tb_proof_0 : decode c_Tb_proof 0 = .ok (.aload_n 0, 1) := by decide +kernel
theorem d_Tb_proof_1 : decode c_Tb_proof 1 = .ok (.iload_n 1, 1) := by decide +kernel
theorem d_Tb_proof_2 : decode c_Tb_proof 2 = .ok (.invokevirtual 253, 3) := by decide +kernel
theorem d_Tb_proof_5 : decode c_Tb_proof 5 = .ok (.iload_n 2, 1) := by decide +kernel
theorem d_Tb_proof_6 : decode c_Tb_proof 6 = .ok (.iconst 0, 1) := by decide +kernel
theorem d_Tb_proof_7 : decode c_Tb_proof 7 = .ok (.iconst 5, 1) := by decide +kernel
theorem d_Tb_proof_8 : decode c_Tb_proof 8 = .ok (.invokestatic 57, 3) := by decide +kernel
theorem d_Tb_proof_11 : decode c_Tb_proof 11 = .ok (.ifCond .ne 14, 3) := by decide +kernel
theorem d_Tb_proof_14 : decode c_Tb_proof 14 = .ok (.new 161, 3) := by decide +kernel
theorem d_Tb_proof_17 : decode c_Tb_proof 17 = .ok (.dup, 1) := by decide +kernel
theorem d_Tb_proof_18 : decode c_Tb_proof 18 = .ok (.ldc_w 262, 3) := by decide +kernel
theorem d_Tb_proof_21 : decode c_Tb_proof 21 = .ok (.invokespecial 165, 3) := by decide +kernel
theorem d_Tb_proof_24 : decode c_Tb_proof 24 = .ok (.athrow, 1) := by decide +kernel
theorem d_Tb_proof_25 : decode c_Tb_proof 25 = .ok (.aload_n 0, 1) := by decide +kernel
theorem d_Tb_proof_26 : decode c_Tb_proof 26 = .ok (.getfield 22, 3) := by decide +kernel
theorem d_Tb_proof_29 : decode c_Tb_proof 29 = .ok (.iload_n 1, 1) := by decide +kernel
theorem d_Tb_proof_30 : decode c_Tb_proof 30 = .ok (.iload_n 2, 1) := by decide +kernel
theorem d_Tb_proof_31 : decode c_Tb_proof 31 = .ok (.invokevirtual 264, 3) := by decide +kernel
theorem d_Tb_proof_34 : decode c_Tb_proof 34 = .ok (.ireturn, 1) := by decide +kernel
set_option maxHeartbeats 4000000 in
set_option maxRecDepth 100000 in
theorem m_Tb_proof {g0 : State} {d : zD} {l : Launch} {a0 : Array Value} (hs0 : zS0 d a0 g0) (hst : l.stackTraces = false) {G : zG} {A : Nat → Nat} {D : Nat → UInt64} {V : Nat → Nat → Int32} {nk ns : Nat} (hT : zT d A D V nk ns G) (x w : Int32) : zMet g0 d l y_Tb_proof c_Tb_proof 3 ((Option.some Jvm.ClassFile.FieldType.int)) 9 2 12 [.ref (A 0), .int x, .int w] (G) (zTu d A nk ns V G zrI) (zTx d A nk ns V G ["java/lang/IndexOutOfBoundsException"]) := by
  have hG_Tb := hT.tb
  have hnk : nk ≤ 8 := hT.2.1
  have hns : ns ≤ 6 := hT.2.2.1
  refine z_entry hs0 hst (by decide) (Nat.le_of_ble_eq_true rfl) (fun p e s m args below meth c => ?_)
  refine z_aload_n 0 d_Tb_proof_0 rfl rfl ?_
  refine z_iload_n 1 d_Tb_proof_1 rfl rfl ?_
  refine z_callV (m_Tb_needEntry hs0 hst hT x) ym_Tb_needEntry qM_Tb_253 qI_Tb_needEntry qV_Tb_Tb_needEntry zc_Tb hG_Tb d_Tb_proof_2 rfl (Nat.le_of_ble_eq_true rfl) ⟨by decide, by decide⟩ ⟨Nat.le_of_ble_eq_true rfl, Nat.le_of_ble_eq_true rfl⟩ ?_ ?_
  · exact fun E G9 hx => by
      obtain ⟨hx1, rfl, hx3⟩ := hx
      obtain rfl : G = G9 := hx3.symm
      exact z_out ⟨by simp, D, V, hT, zKo.rf, zFr.rf⟩ (by decide) (by decide)
  intro r_2 G_2 hp_2
  obtain ⟨hs_2, hr_2, hg_2⟩ := hp_2
  obtain rfl : r_2 = none := hr_2
  obtain rfl : G = G_2 := hg_2.symm
  refine z_iload_n 2 d_Tb_proof_5 rfl rfl ?_
  refine z_iconst (v := 0) d_Tb_proof_6 (by decide) ?_
  refine z_iconst (v := 5) d_Tb_proof_7 (by decide) ?_
  refine z_callS0 (m_Tb_isFrom hs0 hst w 0 _) ym_Tb_isFrom qM_Tb_57 qS_Tb_isFrom d_Tb_proof_8 rfl (Nat.le_of_ble_eq_true rfl) ⟨by decide, by decide⟩ ⟨Nat.le_of_ble_eq_true rfl, Nat.le_of_ble_eq_true rfl⟩ ?_
  refine z_if_ne 25 d_Tb_proof_11 (by decide) (fun c_11 => ?_) (fun c_11 => ?_)
  · skip
    refine z_aload_n 0 d_Tb_proof_25 rfl rfl ?_
    refine z_get zc_Tb 2 (by decide) qF_Tb_22 hG_Tb rfl d_Tb_proof_26 ?_
    refine z_iload_n 1 d_Tb_proof_29 rfl rfl ?_
    refine z_iload_n 2 d_Tb_proof_30 rfl rfl ?_
    refine z_callV0 (m_Re_beside hs0 hst hT.re (hT.1.2 9 (tl_s 9)) x w) ym_Re_beside qM_Tb_264 qI_Re_beside qV_Re_Re_beside zc_Re hT.re d_Tb_proof_31 rfl (Nat.le_of_ble_eq_true rfl) ⟨by decide, by decide⟩ ⟨Nat.le_of_ble_eq_true rfl, Nat.le_of_ble_eq_true rfl⟩ ?_
    exact z_iret rfl (⟨⟨_, rfl⟩, D, V, hT, zKo.rf, zFr.rf⟩) (by first | decide | omega) (by first | decide | omega) d_Tb_proof_34
  · skip
    exact z_thSW (names := ["java/lang/RuntimeException", "java/lang/Exception"]) (by decide) (by decide) qK_Tb_161 qN_IOE qR_Tb_262 th_165.1 th_165.2 d_Tb_proof_14 d_Tb_proof_17 d_Tb_proof_18 d_Tb_proof_21 d_Tb_proof_24 (by decide) (Nat.le_of_ble_eq_true rfl) ⟨by decide, by decide⟩ (⟨by simp, D, V, hT, zKo.rf, zFr.rf⟩) (by decide) (by decide)
theorem d_Tb_proves_0 : decode c_Tb_proves 0 = .ok (.aload_n 0, 1) := by decide +kernel
theorem d_Tb_proves_1 : decode c_Tb_proves 1 = .ok (.iload_n 1, 1) := by decide +kernel
theorem d_Tb_proves_2 : decode c_Tb_proves 2 = .ok (.invokevirtual 253, 3) := by decide +kernel
theorem d_Tb_proves_5 : decode c_Tb_proves 5 = .ok (.iload_n 2, 1) := by decide +kernel
theorem d_Tb_proves_6 : decode c_Tb_proves 6 = .ok (.iconst 0, 1) := by decide +kernel
theorem d_Tb_proves_7 : decode c_Tb_proves 7 = .ok (.sipush 9972, 3) := by decide +kernel
theorem d_Tb_proves_10 : decode c_Tb_proves 10 = .ok (.invokestatic 57, 3) := by decide +kernel
theorem d_Tb_proves_13 : decode c_Tb_proves 13 = .ok (.ifCond .ne 14, 3) := by decide +kernel
theorem d_Tb_proves_16 : decode c_Tb_proves 16 = .ok (.new 61, 3) := by decide +kernel
theorem d_Tb_proves_19 : decode c_Tb_proves 19 = .ok (.dup, 1) := by decide +kernel
theorem d_Tb_proves_20 : decode c_Tb_proves 20 = .ok (.ldc_w 302, 3) := by decide +kernel
theorem d_Tb_proves_23 : decode c_Tb_proves 23 = .ok (.invokespecial 65, 3) := by decide +kernel
theorem d_Tb_proves_26 : decode c_Tb_proves 26 = .ok (.athrow, 1) := by decide +kernel
theorem d_Tb_proves_27 : decode c_Tb_proves 27 = .ok (.aload_n 0, 1) := by decide +kernel
theorem d_Tb_proves_28 : decode c_Tb_proves 28 = .ok (.getfield 22, 3) := by decide +kernel
theorem d_Tb_proves_31 : decode c_Tb_proves 31 = .ok (.iload_n 1, 1) := by decide +kernel
theorem d_Tb_proves_32 : decode c_Tb_proves 32 = .ok (.iload_n 2, 1) := by decide +kernel
theorem d_Tb_proves_33 : decode c_Tb_proves 33 = .ok (.invokevirtual 304, 3) := by decide +kernel
theorem d_Tb_proves_36 : decode c_Tb_proves 36 = .ok (.ireturn, 1) := by decide +kernel
set_option maxHeartbeats 4000000 in
set_option maxRecDepth 100000 in
theorem m_Tb_proves {g0 : State} {d : zD} {l : Launch} {a0 : Array Value} (hs0 : zS0 d a0 g0) (hst : l.stackTraces = false) {G : zG} {A : Nat → Nat} {D : Nat → UInt64} {V : Nat → Nat → Int32} {nk ns : Nat} (hT : zT d A D V nk ns G) (x w : Int32) : zMet g0 d l y_Tb_proves c_Tb_proves 3 ((Option.some Jvm.ClassFile.FieldType.boolean)) 9 2 12 [.ref (A 0), .int x, .int w] (G) (zTu d A nk ns V G zrB) (zTx d A nk ns V G ["java/lang/IllegalArgumentException", "java/lang/IndexOutOfBoundsException"]) := by
  have hG_Tb := hT.tb
  have hnk : nk ≤ 8 := hT.2.1
  have hns : ns ≤ 6 := hT.2.2.1
  refine z_entry hs0 hst (by decide) (Nat.le_of_ble_eq_true rfl) (fun p e s m args below meth c => ?_)
  refine z_aload_n 0 d_Tb_proves_0 rfl rfl ?_
  refine z_iload_n 1 d_Tb_proves_1 rfl rfl ?_
  refine z_callV (m_Tb_needEntry hs0 hst hT x) ym_Tb_needEntry qM_Tb_253 qI_Tb_needEntry qV_Tb_Tb_needEntry zc_Tb hG_Tb d_Tb_proves_2 rfl (Nat.le_of_ble_eq_true rfl) ⟨by decide, by decide⟩ ⟨Nat.le_of_ble_eq_true rfl, Nat.le_of_ble_eq_true rfl⟩ ?_ ?_
  · exact fun E G9 hx => by
      obtain ⟨hx1, rfl, hx3⟩ := hx
      obtain rfl : G = G9 := hx3.symm
      exact z_out ⟨by simp, D, V, hT, zKo.rf, zFr.rf⟩ (by decide) (by decide)
  intro r_2 G_2 hp_2
  obtain ⟨hs_2, hr_2, hg_2⟩ := hp_2
  obtain rfl : r_2 = none := hr_2
  obtain rfl : G = G_2 := hg_2.symm
  refine z_iload_n 2 d_Tb_proves_5 rfl rfl ?_
  refine z_iconst (v := 0) d_Tb_proves_6 (by decide) ?_
  refine z_sipush (v := 9972) d_Tb_proves_7 (by decide) ?_
  refine z_callS0 (m_Tb_isFrom hs0 hst w 0 _) ym_Tb_isFrom qM_Tb_57 qS_Tb_isFrom d_Tb_proves_10 rfl (Nat.le_of_ble_eq_true rfl) ⟨by decide, by decide⟩ ⟨Nat.le_of_ble_eq_true rfl, Nat.le_of_ble_eq_true rfl⟩ ?_
  refine z_if_ne 27 d_Tb_proves_13 (by decide) (fun c_13 => ?_) (fun c_13 => ?_)
  · skip
    refine z_aload_n 0 d_Tb_proves_27 rfl rfl ?_
    refine z_get zc_Tb 2 (by decide) qF_Tb_22 hG_Tb rfl d_Tb_proves_28 ?_
    refine z_iload_n 1 d_Tb_proves_31 rfl rfl ?_
    refine z_iload_n 2 d_Tb_proves_32 rfl rfl ?_
    refine z_callV0 (m_Re_comesToRoot hs0 hst hT.re (hT.1.2 9 (tl_s 9)) x w) ym_Re_comesToRoot qM_Tb_304 qI_Re_comesToRoot qV_Re_Re_comesToRoot zc_Re hT.re d_Tb_proves_33 rfl (Nat.le_of_ble_eq_true rfl) ⟨by decide, by decide⟩ ⟨Nat.le_of_ble_eq_true rfl, Nat.le_of_ble_eq_true rfl⟩ ?_
    exact z_zret rfl (by first | rfl | exact zb_nar _) (⟨⟨_, rfl⟩, D, V, hT, zKo.rf, zFr.rf⟩) (by first | decide | omega) (by first | decide | omega) d_Tb_proves_36
  · skip
    exact z_thSW (names := ["java/lang/RuntimeException", "java/lang/Exception"]) (by decide) (by decide) qK_Tb_61 qN_IAE qR_Tb_302 th_65.1 th_65.2 d_Tb_proves_16 d_Tb_proves_19 d_Tb_proves_20 d_Tb_proves_23 d_Tb_proves_26 (by decide) (Nat.le_of_ble_eq_true rfl) ⟨by decide, by decide⟩ (⟨by simp, D, V, hT, zKo.rf, zFr.rf⟩) (by decide) (by decide)
theorem d_Tb_lost_0 : decode c_Tb_lost 0 = .ok (.aload_n 0, 1) := by decide +kernel
theorem d_Tb_lost_1 : decode c_Tb_lost 1 = .ok (.aload_n 0, 1) := by decide +kernel
theorem d_Tb_lost_2 : decode c_Tb_lost 2 = .ok (.iload_n 1, 1) := by decide +kernel
theorem d_Tb_lost_3 : decode c_Tb_lost 3 = .ok (.invokevirtual 140, 3) := by decide +kernel
theorem d_Tb_lost_6 : decode c_Tb_lost 6 = .ok (.invokevirtual 294, 3) := by decide +kernel
theorem d_Tb_lost_9 : decode c_Tb_lost 9 = .ok (.dreturn, 1) := by decide +kernel
set_option maxHeartbeats 4000000 in
set_option maxRecDepth 100000 in
theorem m_Tb_lost {g0 : State} {d : zD} {l : Launch} {a0 : Array Value} (hs0 : zS0 d a0 g0) (hst : l.stackTraces = false) {G : zG} {A : Nat → Nat} {D : Nat → UInt64} {V : Nat → Nat → Int32} {nk ns : Nat} (hT : zT d A D V nk ns G) (x : Int32) : zMet g0 d l y_Tb_lost c_Tb_lost 2 ((Option.some Jvm.ClassFile.FieldType.double)) 12 1 6 [.ref (A 0), .int x] (G) (zTu d A nk ns V G zrD) (zTx d A nk ns V G ["java/lang/IndexOutOfBoundsException"]) := by
  have hG_Tb := hT.tb
  have hnk : nk ≤ 8 := hT.2.1
  have hns : ns ≤ 6 := hT.2.2.1
  refine z_entry hs0 hst (by decide) (Nat.le_of_ble_eq_true rfl) (fun p e s m args below meth c => ?_)
  refine z_aload_n 0 d_Tb_lost_0 rfl rfl ?_
  refine z_aload_n 0 d_Tb_lost_1 rfl rfl ?_
  refine z_iload_n 1 d_Tb_lost_2 rfl rfl ?_
  refine z_callV (m_Tb_secretAt hs0 hst hT x) ym_Tb_secretAt qM_Tb_140 qI_Tb_secretAt qV_Tb_Tb_secretAt zc_Tb hG_Tb d_Tb_lost_3 rfl (Nat.le_of_ble_eq_true rfl) ⟨by decide, by decide⟩ ⟨Nat.le_of_ble_eq_true rfl, Nat.le_of_ble_eq_true rfl⟩ ?_ ?_
  · exact fun E G9 hx => by
      obtain ⟨hx1, rfl, hx3⟩ := hx
      obtain rfl : G = G9 := hx3.symm
      exact z_out ⟨by simp, D, V, hT, zKo.rf, zFr.rf⟩ (by decide) (by decide)
  intro r_3 G_3 hp_3
  obtain ⟨si, hsi, rfl, rfl, hg_3⟩ := hp_3
  obtain rfl : G = G_3 := hg_3.symm
  refine z_callVp0 (m_Tb_chanceLost hs0 hst hT hsi) ym_Tb_chanceLost qM_Tb_294 qI_Tb_chanceLost qV_Tb_Tb_chanceLost zc_Tb hG_Tb d_Tb_lost_6 rfl (Nat.le_of_ble_eq_true rfl) ⟨by decide, by decide⟩ ⟨Nat.le_of_ble_eq_true rfl, Nat.le_of_ble_eq_true rfl⟩ (fun r_6 G_6 hp_6 => ?_)
  obtain ⟨⟨u9, rfl, hu9⟩, D3, V3, hT3, hK3, hF3⟩ := hp_6
  exact z_dret rfl (⟨⟨_, rfl, hu9⟩, D3, V3, hT3, hK3, hF3⟩) (by first | decide | omega) (by first | decide | omega) d_Tb_lost_9
theorem d_Tb_fewest_0 : decode c_Tb_fewest 0 = .ok (.aload_n 0, 1) := by decide +kernel
theorem d_Tb_fewest_1 : decode c_Tb_fewest 1 = .ok (.aload_n 0, 1) := by decide +kernel
theorem d_Tb_fewest_2 : decode c_Tb_fewest 2 = .ok (.iload_n 1, 1) := by decide +kernel
theorem d_Tb_fewest_3 : decode c_Tb_fewest 3 = .ok (.invokevirtual 140, 3) := by decide +kernel
theorem d_Tb_fewest_6 : decode c_Tb_fewest 6 = .ok (.invokevirtual 298, 3) := by decide +kernel
theorem d_Tb_fewest_9 : decode c_Tb_fewest 9 = .ok (.ireturn, 1) := by decide +kernel
set_option maxHeartbeats 4000000 in
set_option maxRecDepth 100000 in
theorem m_Tb_fewest {g0 : State} {d : zD} {l : Launch} {a0 : Array Value} (hs0 : zS0 d a0 g0) (hst : l.stackTraces = false) {G : zG} {A : Nat → Nat} {D : Nat → UInt64} {V : Nat → Nat → Int32} {nk ns : Nat} (hT : zT d A D V nk ns G) (x : Int32) : zMet g0 d l y_Tb_fewest c_Tb_fewest 2 ((Option.some Jvm.ClassFile.FieldType.int)) 14 1 6 [.ref (A 0), .int x] (G) (zTu d A nk ns V G zrI) (zTx d A nk ns V G ["java/lang/IndexOutOfBoundsException"]) := by
  have hG_Tb := hT.tb
  have hnk : nk ≤ 8 := hT.2.1
  have hns : ns ≤ 6 := hT.2.2.1
  refine z_entry hs0 hst (by decide) (Nat.le_of_ble_eq_true rfl) (fun p e s m args below meth c => ?_)
  refine z_aload_n 0 d_Tb_fewest_0 rfl rfl ?_
  refine z_aload_n 0 d_Tb_fewest_1 rfl rfl ?_
  refine z_iload_n 1 d_Tb_fewest_2 rfl rfl ?_
  refine z_callV (m_Tb_secretAt hs0 hst hT x) ym_Tb_secretAt qM_Tb_140 qI_Tb_secretAt qV_Tb_Tb_secretAt zc_Tb hG_Tb d_Tb_fewest_3 rfl (Nat.le_of_ble_eq_true rfl) ⟨by decide, by decide⟩ ⟨Nat.le_of_ble_eq_true rfl, Nat.le_of_ble_eq_true rfl⟩ ?_ ?_
  · exact fun E G9 hx => by
      obtain ⟨hx1, rfl, hx3⟩ := hx
      obtain rfl : G = G9 := hx3.symm
      exact z_out ⟨by simp, D, V, hT, zKo.rf, zFr.rf⟩ (by decide) (by decide)
  intro r_3 G_3 hp_3
  obtain ⟨si, hsi, rfl, rfl, hg_3⟩ := hp_3
  obtain rfl : G = G_3 := hg_3.symm
  refine z_callVp0 (m_Tb_fewestOf hs0 hst hT (hT.se hsi)) ym_Tb_fewestOf qM_Tb_298 qI_Tb_fewestOf qV_Tb_Tb_fewestOf zc_Tb hG_Tb d_Tb_fewest_6 rfl (Nat.le_of_ble_eq_true rfl) ⟨by decide, by decide⟩ ⟨Nat.le_of_ble_eq_true rfl, Nat.le_of_ble_eq_true rfl⟩ (fun r_6 G_6 hp_6 => ?_)
  obtain ⟨⟨v_6, rfl⟩, rfl⟩ := hp_6
  exact z_iret rfl (⟨⟨_, rfl⟩, D, V, hT, zKo.rf, zFr.rf⟩) (by first | decide | omega) (by first | decide | omega) d_Tb_fewest_9
theorem d_Tb_would_0 : decode c_Tb_would 0 = .ok (.aload_n 0, 1) := by decide +kernel
theorem d_Tb_would_1 : decode c_Tb_would 1 = .ok (.iload_n 1, 1) := by decide +kernel
theorem d_Tb_would_2 : decode c_Tb_would 2 = .ok (.invokevirtual 140, 3) := by decide +kernel
theorem d_Tb_would_5 : decode c_Tb_would 5 = .ok (.astore 4, 2) := by decide +kernel
theorem d_Tb_would_7 : decode c_Tb_would 7 = .ok (.aload_n 0, 1) := by decide +kernel
theorem d_Tb_would_8 : decode c_Tb_would 8 = .ok (.iload_n 2, 1) := by decide +kernel
theorem d_Tb_would_9 : decode c_Tb_would 9 = .ok (.invokevirtual 101, 3) := by decide +kernel
theorem d_Tb_would_12 : decode c_Tb_would 12 = .ok (.iload_n 3, 1) := by decide +kernel
theorem d_Tb_would_13 : decode c_Tb_would 13 = .ok (.iconst 0, 1) := by decide +kernel
theorem d_Tb_would_14 : decode c_Tb_would 14 = .ok (.iconst 5, 1) := by decide +kernel
theorem d_Tb_would_15 : decode c_Tb_would 15 = .ok (.invokestatic 57, 3) := by decide +kernel
theorem d_Tb_would_18 : decode c_Tb_would 18 = .ok (.ifCond .ne 14, 3) := by decide +kernel
theorem d_Tb_would_21 : decode c_Tb_would 21 = .ok (.new 61, 3) := by decide +kernel
theorem d_Tb_would_24 : decode c_Tb_would 24 = .ok (.dup, 1) := by decide +kernel
theorem d_Tb_would_25 : decode c_Tb_would 25 = .ok (.ldc_w 281, 3) := by decide +kernel
theorem d_Tb_would_28 : decode c_Tb_would 28 = .ok (.invokespecial 65, 3) := by decide +kernel
theorem d_Tb_would_31 : decode c_Tb_would 31 = .ok (.athrow, 1) := by decide +kernel
theorem d_Tb_would_32 : decode c_Tb_would 32 = .ok (.aload_n 0, 1) := by decide +kernel
theorem d_Tb_would_33 : decode c_Tb_would 33 = .ok (.aload 4, 2) := by decide +kernel
theorem d_Tb_would_35 : decode c_Tb_would 35 = .ok (.iload_n 2, 1) := by decide +kernel
theorem d_Tb_would_36 : decode c_Tb_would 36 = .ok (.invokevirtual 184, 3) := by decide +kernel
theorem d_Tb_would_39 : decode c_Tb_would 39 = .ok (.aload_n 0, 1) := by decide +kernel
theorem d_Tb_would_40 : decode c_Tb_would 40 = .ok (.getfield 36, 3) := by decide +kernel
theorem d_Tb_would_43 : decode c_Tb_would 43 = .ok (.invokevirtual 188, 3) := by decide +kernel
theorem d_Tb_would_46 : decode c_Tb_would 46 = .ok (.aload_n 0, 1) := by decide +kernel
theorem d_Tb_would_47 : decode c_Tb_would 47 = .ok (.aload 4, 2) := by decide +kernel
theorem d_Tb_would_49 : decode c_Tb_would 49 = .ok (.iload_n 3, 1) := by decide +kernel
theorem d_Tb_would_50 : decode c_Tb_would 50 = .ok (.invokevirtual 283, 3) := by decide +kernel
theorem d_Tb_would_53 : decode c_Tb_would 53 = .ok (.ireturn, 1) := by decide +kernel
set_option maxHeartbeats 4000000 in
set_option maxRecDepth 100000 in
theorem m_Tb_would {g0 : State} {d : zD} {l : Launch} {a0 : Array Value} (hs0 : zS0 d a0 g0) (hst : l.stackTraces = false) {G : zG} {A : Nat → Nat} {D : Nat → UInt64} {V : Nat → Nat → Int32} {nk ns : Nat} (hT : zT d A D V nk ns G) (x set w : Int32) : zMet g0 d l y_Tb_would c_Tb_would 5 ((Option.some Jvm.ClassFile.FieldType.int)) 14 3 18 [.ref (A 0), .int x, .int set, .int w] (G) (zTu d A nk ns V G zrI) (zTx d A nk ns V G ["java/lang/IllegalArgumentException", "java/lang/IndexOutOfBoundsException"]) := by
  have hG_Tb := hT.tb
  have hnk : nk ≤ 8 := hT.2.1
  have hns : ns ≤ 6 := hT.2.2.1
  refine z_entry hs0 hst (by decide) (Nat.le_of_ble_eq_true rfl) (fun p e s m args below meth c => ?_)
  refine z_aload_n 0 d_Tb_would_0 rfl rfl ?_
  refine z_iload_n 1 d_Tb_would_1 rfl rfl ?_
  refine z_callV (m_Tb_secretAt hs0 hst hT x) ym_Tb_secretAt qM_Tb_140 qI_Tb_secretAt qV_Tb_Tb_secretAt zc_Tb (by first | exact hT4.tb | exact hT3.tb | exact hT.tb) d_Tb_would_2 rfl (Nat.le_of_ble_eq_true rfl) ⟨by decide, by decide⟩ ⟨Nat.le_of_ble_eq_true rfl, Nat.le_of_ble_eq_true rfl⟩ ?_ ?_
  · exact fun E G9 hx => by
      obtain ⟨hx1, rfl, hx3⟩ := hx
      obtain rfl : G = G9 := hx3.symm
      exact z_out ⟨by simp, D, V, hT, zKo.rf, zFr.rf⟩ (by decide) (by decide)
  intro r_2 G_2 hp_2
  obtain ⟨si, hsi, rfl, rfl, hg_2⟩ := hp_2
  obtain rfl : G = G_2 := hg_2.symm
  refine z_astore (L' := [(4, _), (0, _), (1, _), (2, _), (3, _)]) d_Tb_would_5 (by decide) rfl ?_
  refine z_aload_n 1 d_Tb_would_7 rfl rfl ?_
  refine z_iload_n 3 d_Tb_would_8 rfl rfl ?_
  refine z_callV (m_Tb_needSet hs0 hst hT set) ym_Tb_needSet qM_Tb_101 qI_Tb_needSet qV_Tb_Tb_needSet zc_Tb (by first | exact hT4.tb | exact hT3.tb | exact hT.tb) d_Tb_would_9 rfl (Nat.le_of_ble_eq_true rfl) ⟨by decide, by decide⟩ ⟨Nat.le_of_ble_eq_true rfl, Nat.le_of_ble_eq_true rfl⟩ ?_ ?_
  · exact fun E G9 hx => by
      obtain ⟨hx1, rfl, hx3⟩ := hx
      obtain rfl : G = G9 := hx3.symm
      exact z_out ⟨by simp, D, V, hT, zKo.rf, zFr.rf⟩ (by decide) (by decide)
  intro r_9 G_9 hp_9
  obtain ⟨hs_9, hr_9, hg_9⟩ := hp_9
  obtain rfl : r_9 = none := hr_9
  obtain rfl : G = G_9 := hg_9.symm
  refine z_iload_n 4 d_Tb_would_12 rfl rfl ?_
  refine z_iconst (v := 0) d_Tb_would_13 (by decide) ?_
  refine z_iconst (v := 5) d_Tb_would_14 (by decide) ?_
  refine z_callS0 (m_Tb_isFrom hs0 hst w 0 _) ym_Tb_isFrom qM_Tb_57 qS_Tb_isFrom d_Tb_would_15 rfl (Nat.le_of_ble_eq_true rfl) ⟨by decide, by decide⟩ ⟨Nat.le_of_ble_eq_true rfl, Nat.le_of_ble_eq_true rfl⟩ ?_
  refine z_if_ne 32 d_Tb_would_18 (by decide) (fun c_18 => ?_) (fun c_18 => ?_)
  · skip
    refine z_aload_n 1 d_Tb_would_32 rfl rfl ?_
    refine z_aload 0 d_Tb_would_33 rfl ?_
    refine z_iload_n 3 d_Tb_would_35 rfl rfl ?_
    refine z_callVp0 (m_Tb_gatherGroup hs0 hst hT hsi set) ym_Tb_gatherGroup qM_Tb_184 qI_Tb_gatherGroup qV_Tb_Tb_gatherGroup zc_Tb (by first | exact hT4.tb | exact hT3.tb | exact hT.tb) d_Tb_would_36 rfl (Nat.le_of_ble_eq_true rfl) ⟨by decide, by decide⟩ ⟨Nat.le_of_ble_eq_true rfl, Nat.le_of_ble_eq_true rfl⟩ (fun r_36 G_36 hp_36 => ?_)
    obtain ⟨hr_36, D3, V3, hT3, hK3, hF3⟩ := hp_36
    obtain rfl : r_36 = none := hr_36
    obtain ⟨q9, hq9, hg9⟩ := hT3.dec
    refine z_aload_n 1 d_Tb_would_39 rfl rfl ?_
    refine z_get zc_Tb 4 (by decide) qF_Tb_36 (by first | exact hT4.tb | exact hT3.tb | exact hT.tb) rfl d_Tb_would_40 ?_
    refine z_callVp0 (m_Gr_decode hs0 hst hg9 hq9) ym_Gr_decode qM_Tb_188 qI_Gr_decode qV_Gr_Gr_decode zc_Gr hT3.gr d_Tb_would_43 rfl (Nat.le_of_ble_eq_true rfl) ⟨by decide, by decide⟩ ⟨Nat.le_of_ble_eq_true rfl, Nat.le_of_ble_eq_true rfl⟩ (fun r_43 G_43 hp_43 => ?_)
    obtain ⟨hr_43, hg_43⟩ := hp_43
    obtain rfl : r_43 = none := hr_43
    obtain ⟨V4, hT4, hK4, hF4⟩ := hT3.putg (V3 12 0) _ _ (p := nI q9) ⟨q9, hq9, rfl⟩
    rw [← hg_43] at hT4 hF4
    refine z_aload_n 1 d_Tb_would_46 rfl rfl ?_
    refine z_aload 0 d_Tb_would_47 rfl ?_
    refine z_iload_n 4 d_Tb_would_49 rfl rfl ?_
    refine z_callVp0 (m_Tb_tellOfGroup hs0 hst hT4 hsi w) ym_Tb_tellOfGroup qM_Tb_283 qI_Tb_tellOfGroup qV_Tb_Tb_tellOfGroup zc_Tb (by first | exact hT4.tb | exact hT3.tb | exact hT.tb) d_Tb_would_50 rfl (Nat.le_of_ble_eq_true rfl) ⟨by decide, by decide⟩ ⟨Nat.le_of_ble_eq_true rfl, Nat.le_of_ble_eq_true rfl⟩ (fun r_50 G_50 hp_50 => ?_)
    obtain ⟨⟨v_50, rfl⟩, rfl⟩ := hp_50
    exact z_iret rfl (⟨⟨_, rfl⟩, D3, V4, hT4, hK3.tr hK4, hF3.tr hF4⟩) (by first | decide | omega) (by first | decide | omega) d_Tb_would_53
  · skip
    exact z_thSW (names := ["java/lang/RuntimeException", "java/lang/Exception"]) (by decide) (by decide) qK_Tb_61 qN_IAE qR_Tb_281 th_65.1 th_65.2 d_Tb_would_21 d_Tb_would_24 d_Tb_would_25 d_Tb_would_28 d_Tb_would_31 (by decide) (Nat.le_of_ble_eq_true rfl) ⟨by decide, by decide⟩ (⟨by simp, D, V, hT, zKo.rf, zFr.rf⟩) (by decide) (by decide)
theorem d_Tb_may_0 : decode c_Tb_may 0 = .ok (.aload_n 0, 1) := by decide +kernel
theorem d_Tb_may_1 : decode c_Tb_may 1 = .ok (.iload_n 1, 1) := by decide +kernel
theorem d_Tb_may_2 : decode c_Tb_may 2 = .ok (.invokevirtual 140, 3) := by decide +kernel
theorem d_Tb_may_5 : decode c_Tb_may 5 = .ok (.astore 4, 2) := by decide +kernel
theorem d_Tb_may_7 : decode c_Tb_may 7 = .ok (.aload_n 0, 1) := by decide +kernel
theorem d_Tb_may_8 : decode c_Tb_may 8 = .ok (.iload_n 2, 1) := by decide +kernel
theorem d_Tb_may_9 : decode c_Tb_may 9 = .ok (.invokevirtual 101, 3) := by decide +kernel
theorem d_Tb_may_12 : decode c_Tb_may 12 = .ok (.iload_n 3, 1) := by decide +kernel
theorem d_Tb_may_13 : decode c_Tb_may 13 = .ok (.invokestatic 90, 3) := by decide +kernel
theorem d_Tb_may_16 : decode c_Tb_may 16 = .ok (.ifCond .ne 14, 3) := by decide +kernel
theorem d_Tb_may_19 : decode c_Tb_may 19 = .ok (.new 61, 3) := by decide +kernel
theorem d_Tb_may_22 : decode c_Tb_may 22 = .ok (.dup, 1) := by decide +kernel
theorem d_Tb_may_23 : decode c_Tb_may 23 = .ok (.ldc_w 286, 3) := by decide +kernel
theorem d_Tb_may_26 : decode c_Tb_may 26 = .ok (.invokespecial 65, 3) := by decide +kernel
theorem d_Tb_may_29 : decode c_Tb_may 29 = .ok (.athrow, 1) := by decide +kernel
theorem d_Tb_may_30 : decode c_Tb_may 30 = .ok (.aload_n 0, 1) := by decide +kernel
theorem d_Tb_may_31 : decode c_Tb_may 31 = .ok (.aload 4, 2) := by decide +kernel
theorem d_Tb_may_33 : decode c_Tb_may 33 = .ok (.iload_n 2, 1) := by decide +kernel
theorem d_Tb_may_34 : decode c_Tb_may 34 = .ok (.invokevirtual 184, 3) := by decide +kernel
theorem d_Tb_may_37 : decode c_Tb_may 37 = .ok (.aload_n 0, 1) := by decide +kernel
theorem d_Tb_may_38 : decode c_Tb_may 38 = .ok (.getfield 36, 3) := by decide +kernel
theorem d_Tb_may_41 : decode c_Tb_may 41 = .ok (.iconst 0, 1) := by decide +kernel
theorem d_Tb_may_42 : decode c_Tb_may 42 = .ok (.iload_n 3, 1) := by decide +kernel
theorem d_Tb_may_43 : decode c_Tb_may 43 = .ok (.invokevirtual 288, 3) := by decide +kernel
theorem d_Tb_may_46 : decode c_Tb_may 46 = .ok (.aload_n 0, 1) := by decide +kernel
theorem d_Tb_may_47 : decode c_Tb_may 47 = .ok (.getfield 36, 3) := by decide +kernel
theorem d_Tb_may_50 : decode c_Tb_may 50 = .ok (.invokevirtual 291, 3) := by decide +kernel
theorem d_Tb_may_53 : decode c_Tb_may 53 = .ok (.ireturn, 1) := by decide +kernel
set_option maxHeartbeats 4000000 in
set_option maxRecDepth 100000 in
theorem m_Tb_may {g0 : State} {d : zD} {l : Launch} {a0 : Array Value} (hs0 : zS0 d a0 g0) (hst : l.stackTraces = false) {G : zG} {A : Nat → Nat} {D : Nat → UInt64} {V : Nat → Nat → Int32} {nk ns : Nat} (hT : zT d A D V nk ns G) (x set w : Int32) : zMet g0 d l y_Tb_may c_Tb_may 5 ((Option.some Jvm.ClassFile.FieldType.boolean)) 12 3 18 [.ref (A 0), .int x, .int set, .int w] (G) (zTu d A nk ns V G zrB) (zTx d A nk ns V G ["java/lang/IllegalArgumentException", "java/lang/IndexOutOfBoundsException"]) := by
  have hG_Tb := hT.tb
  have hnk : nk ≤ 8 := hT.2.1
  have hns : ns ≤ 6 := hT.2.2.1
  refine z_entry hs0 hst (by decide) (Nat.le_of_ble_eq_true rfl) (fun p e s m args below meth c => ?_)
  refine z_aload_n 0 d_Tb_may_0 rfl rfl ?_
  refine z_iload_n 1 d_Tb_may_1 rfl rfl ?_
  refine z_callV (m_Tb_secretAt hs0 hst hT x) ym_Tb_secretAt qM_Tb_140 qI_Tb_secretAt qV_Tb_Tb_secretAt zc_Tb (by first | exact hT4.tb | exact hT3.tb | exact hT.tb) d_Tb_may_2 rfl (Nat.le_of_ble_eq_true rfl) ⟨by decide, by decide⟩ ⟨Nat.le_of_ble_eq_true rfl, Nat.le_of_ble_eq_true rfl⟩ ?_ ?_
  · exact fun E G9 hx => by
      obtain ⟨hx1, rfl, hx3⟩ := hx
      obtain rfl : G = G9 := hx3.symm
      exact z_out ⟨by simp, D, V, hT, zKo.rf, zFr.rf⟩ (by decide) (by decide)
  intro r_2 G_2 hp_2
  obtain ⟨si, hsi, rfl, rfl, hg_2⟩ := hp_2
  obtain rfl : G = G_2 := hg_2.symm
  refine z_astore (L' := [(4, _), (0, _), (1, _), (2, _), (3, _)]) d_Tb_may_5 (by decide) rfl ?_
  refine z_aload_n 1 d_Tb_may_7 rfl rfl ?_
  refine z_iload_n 3 d_Tb_may_8 rfl rfl ?_
  refine z_callV (m_Tb_needSet hs0 hst hT set) ym_Tb_needSet qM_Tb_101 qI_Tb_needSet qV_Tb_Tb_needSet zc_Tb (by first | exact hT4.tb | exact hT3.tb | exact hT.tb) d_Tb_may_9 rfl (Nat.le_of_ble_eq_true rfl) ⟨by decide, by decide⟩ ⟨Nat.le_of_ble_eq_true rfl, Nat.le_of_ble_eq_true rfl⟩ ?_ ?_
  · exact fun E G9 hx => by
      obtain ⟨hx1, rfl, hx3⟩ := hx
      obtain rfl : G = G9 := hx3.symm
      exact z_out ⟨by simp, D, V, hT, zKo.rf, zFr.rf⟩ (by decide) (by decide)
  intro r_9 G_9 hp_9
  obtain ⟨hs_9, hr_9, hg_9⟩ := hp_9
  obtain rfl : r_9 = none := hr_9
  obtain rfl : G = G_9 := hg_9.symm
  refine z_iload_n 4 d_Tb_may_12 rfl rfl ?_
  refine z_callS0 (m_Tb_isNumber hs0 hst w) ym_Tb_isNumber qM_Tb_90 qS_Tb_isNumber d_Tb_may_13 rfl (Nat.le_of_ble_eq_true rfl) ⟨by decide, by decide⟩ ⟨Nat.le_of_ble_eq_true rfl, Nat.le_of_ble_eq_true rfl⟩ ?_
  refine z_if_ne 30 d_Tb_may_16 (by decide) (fun c_16 => ?_) (fun c_16 => ?_)
  · skip
    refine z_aload_n 1 d_Tb_may_30 rfl rfl ?_
    refine z_aload 0 d_Tb_may_31 rfl ?_
    refine z_iload_n 3 d_Tb_may_33 rfl rfl ?_
    refine z_callVp0 (m_Tb_gatherGroup hs0 hst hT hsi set) ym_Tb_gatherGroup qM_Tb_184 qI_Tb_gatherGroup qV_Tb_Tb_gatherGroup zc_Tb (by first | exact hT4.tb | exact hT3.tb | exact hT.tb) d_Tb_may_34 rfl (Nat.le_of_ble_eq_true rfl) ⟨by decide, by decide⟩ ⟨Nat.le_of_ble_eq_true rfl, Nat.le_of_ble_eq_true rfl⟩ (fun r_34 G_34 hp_34 => ?_)
    obtain ⟨hr_34, D3, V3, hT3, hK3, hF3⟩ := hp_34
    obtain rfl : r_34 = none := hr_34
    refine z_aload_n 1 d_Tb_may_37 rfl rfl ?_
    refine z_get zc_Tb 4 (by decide) qF_Tb_36 (by first | exact hT4.tb | exact hT3.tb | exact hT.tb) rfl d_Tb_may_38 ?_
    refine z_iconst (v := (nI 0)) d_Tb_may_41 (by decide) ?_
    refine z_iload_n 4 d_Tb_may_42 rfl rfl ?_
    refine z_callVp0 (m_Gr_give hs0 hst hT3.gA (k := 0) (by decide) w) ym_Gr_give qM_Tb_288 qI_Gr_give qV_Gr_Gr_give zc_Gr hT3.gr d_Tb_may_43 rfl (Nat.le_of_ble_eq_true rfl) ⟨by decide, by decide⟩ ⟨Nat.le_of_ble_eq_true rfl, Nat.le_of_ble_eq_true rfl⟩ (fun r_43 G_43 hp_43 => ?_)
    obtain ⟨hr_43, hg_43⟩ := hp_43
    obtain rfl : r_43 = none := hr_43
    obtain ⟨V4, hT4, hK4, hF4⟩ := hT3.give (k := 0) (by decide) w
    rw [← hg_43] at hT4 hF4
    refine z_aload_n 1 d_Tb_may_46 rfl rfl ?_
    refine z_get zc_Tb 4 (by decide) qF_Tb_36 (by first | exact hT4.tb | exact hT3.tb | exact hT.tb) rfl d_Tb_may_47 ?_
    refine z_callV0 (m_Gr_isOnOneCurve hs0 hst hT4.gA) ym_Gr_isOnOneCurve qM_Tb_291 qI_Gr_isOnOneCurve qV_Gr_Gr_isOnOneCurve zc_Gr hT4.gr d_Tb_may_50 rfl (Nat.le_of_ble_eq_true rfl) ⟨by decide, by decide⟩ ⟨Nat.le_of_ble_eq_true rfl, Nat.le_of_ble_eq_true rfl⟩ ?_
    exact z_zret rfl (by first | rfl | exact zb_nar _) (⟨⟨_, rfl⟩, D3, V4, hT4, hK3.tr hK4, hF3.tr hF4⟩) (by first | decide | omega) (by first | decide | omega) d_Tb_may_53
  · skip
    exact z_thSW (names := ["java/lang/RuntimeException", "java/lang/Exception"]) (by decide) (by decide) qK_Tb_61 qN_IAE qR_Tb_286 th_65.1 th_65.2 d_Tb_may_19 d_Tb_may_22 d_Tb_may_23 d_Tb_may_26 d_Tb_may_29 (by decide) (Nat.le_of_ble_eq_true rfl) ⟨by decide, by decide⟩ (⟨by simp, D, V, hT, zKo.rf, zFr.rf⟩) (by decide) (by decide)
