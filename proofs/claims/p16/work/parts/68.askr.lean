set_option maxHeartbeats 4000000 in
set_option maxRecDepth 100000 in
theorem m_Mo_ofEntryE {g0 : State} {d : zD} {l : Launch} {a0 : Array Value} (hs0 : zS0 d a0 g0) (hst : l.stackTraces = false) {G : zG} {B : Nat → Nat} {V : Nat → Nat → Int32} {nk ns ne ec : Nat} (hM : zM d B V nk ns ne ec G) (x w : Int32) : zMet g0 d l y_Mo_ofEntry c_Mo_ofEntry 3 ((Option.some Jvm.ClassFile.FieldType.int)) 11 0 0 [.ref (B 0), .int x, .int w] (G) (mAq d B nk ns ne ec V G (rEn ne x w)) (zNo) := by
  have hnk : nk ≤ 8 := hM.2.1
  have hns : ns ≤ 6 := hM.2.2.1
  have hne : ne ≤ 64 := hM.2.2.2.1
  have hp2 : 2 ^ nk ≤ 256 := Nat.pow_le_pow_right (n := 2) (by decide) hnk
  refine z_entry hs0 hst (by decide) (Nat.le_of_ble_eq_true rfl) (fun p e s m args below meth c => ?_)
  refine z_aload_n 0 d_Mo_ofEntry_0 rfl rfl ?_
  refine z_iconst (v := 0) d_Mo_ofEntry_1 (by decide) ?_
  refine z_put zc_Mo 0 (by decide) qF_Mo_36 hM.mo rfl rfl rfl (Nat.le_of_ble_eq_true rfl) d_Mo_ofEntry_2 ?_
  obtain ⟨V1, hM1, hK1, hF1, hT1⟩ := hM.putT 0
  refine z_aload_n 0 d_Mo_ofEntry_5 rfl rfl ?_
  refine z_iload_n 1 d_Mo_ofEntry_6 rfl rfl ?_
  refine z_callV0 (m_Mo_isEntry hs0 hst hM1 x) ym_Mo_isEntry qM_Mo_228 qI_Mo_isEntry qV_Mo_Mo_isEntry zc_Mo hM1.mo d_Mo_ofEntry_7 rfl (Nat.le_of_ble_eq_true rfl) ⟨Nat.zero_le _, Nat.zero_le _⟩ ⟨Nat.le_of_ble_eq_true rfl, Nat.le_of_ble_eq_true rfl⟩ ?_
  refine z_if_ne 19 d_Mo_ofEntry_10 (by decide) (fun c_10 => ?_) (fun c_10 => ?_)
  · skip
    obtain ⟨ei, hei, rfl⟩ := zin_n ((zb_n0 _).mp c_10) (by omega)
    refine z_iload_n 2 d_Mo_ofEntry_19 rfl rfl ?_
    refine z_iconst (v := 0) d_Mo_ofEntry_20 (by decide) ?_
    refine z_iconst (v := (nI 3)) d_Mo_ofEntry_21 (by decide) ?_
    refine z_callS0 (m_Mo_in hs0 hst w 0 _) ym_Mo_in qM_Mo_115 qS_Mo_in d_Mo_ofEntry_22 rfl (Nat.le_of_ble_eq_true rfl) ⟨Nat.zero_le _, Nat.zero_le _⟩ ⟨Nat.le_of_ble_eq_true rfl, Nat.le_of_ble_eq_true rfl⟩ ?_
    refine z_if_ne 34 d_Mo_ofEntry_25 (by decide) (fun c_25 => ?_) (fun c_25 => ?_)
    · skip
      obtain ⟨wi, hwi, rfl⟩ := zin_l ((zb_n0 _).mp c_25) (by decide)
      refine z_aload_n 0 d_Mo_ofEntry_34 rfl rfl ?_
      refine z_get zc_Mo 8 (by decide) qF_Mo_23 hM1.mo rfl d_Mo_ofEntry_35 ?_
      refine z_iload_n 1 d_Mo_ofEntry_38 rfl rfl ?_
      refine z_callF0 (m_AL_get hs0 hst (hM1.eA hei) hei (if_pos hei)) ym_AL_get zF_AL_get qM_Mo_51 zc_AL (hM1.eA hei).1 d_Mo_ofEntry_39 rfl (Nat.le_of_ble_eq_true rfl) ⟨Nat.zero_le _, Nat.zero_le _⟩ ⟨Nat.le_of_ble_eq_true rfl, Nat.le_of_ble_eq_true rfl⟩ ?_
      refine z_castI qK_Mo_217 (hM1.en hei) d_Mo_ofEntry_44 ?_
      refine z_iload_n 2 d_Mo_ofEntry_47 rfl rfl ?_
      refine z_ialdN (hM1.en hei) (hwi) (by decide) d_Mo_ofEntry_48 ?_
      exact z_iret rfl (⟨_, V1, rfl, Or.inr ⟨ei, hei, rfl, Or.inr ⟨wi, hwi, rfl, hT1, rfl⟩⟩, hM1, hK1, hF1⟩) (by first | decide | omega) (by first | decide | omega) d_Mo_ofEntry_49
    · skip
      refine z_aload_n 0 d_Mo_ofEntry_28 rfl rfl ?_
      refine z_iconst (v := 2) d_Mo_ofEntry_29 (by decide) ?_
      refine z_callV0 (m_Mo_no hs0 hst hM1.mo 2) ym_Mo_no qM_Mo_119 qI_Mo_no qV_Mo_Mo_no zc_Mo hM1.mo d_Mo_ofEntry_30 rfl (Nat.le_of_ble_eq_true rfl) ⟨Nat.zero_le _, Nat.zero_le _⟩ ⟨Nat.le_of_ble_eq_true rfl, Nat.le_of_ble_eq_true rfl⟩ ?_
      obtain ⟨V9, hM9, hK9, hF9, hT9⟩ := hM1.putT 2
      exact z_iret rfl (⟨_, V9, rfl, Or.inr ⟨ei, hei, rfl, Or.inl ⟨(zb_0 _).mp c_25, hT9⟩⟩, hM9, hK1.tr hK9, hF1.tr hF9⟩) (by first | decide | omega) (by first | decide | omega) d_Mo_ofEntry_33
  · skip
    refine z_aload_n 0 d_Mo_ofEntry_13 rfl rfl ?_
    refine z_iconst (v := 1) d_Mo_ofEntry_14 (by decide) ?_
    refine z_callV0 (m_Mo_no hs0 hst hM1.mo 1) ym_Mo_no qM_Mo_119 qI_Mo_no qV_Mo_Mo_no zc_Mo hM1.mo d_Mo_ofEntry_15 rfl (Nat.le_of_ble_eq_true rfl) ⟨Nat.zero_le _, Nat.zero_le _⟩ ⟨Nat.le_of_ble_eq_true rfl, Nat.le_of_ble_eq_true rfl⟩ ?_
    obtain ⟨V9, hM9, hK9, hF9, hT9⟩ := hM1.putT 1
    exact z_iret rfl (⟨_, V9, rfl, Or.inl ⟨(zb_0 _).mp c_10, hT9⟩, hM9, hK1.tr hK9, hF1.tr hF9⟩) (by first | decide | omega) (by first | decide | omega) d_Mo_ofEntry_18
