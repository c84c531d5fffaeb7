set_option maxHeartbeats 4000000 in
set_option maxRecDepth 100000 in
theorem m_Mo_shareNowE {g0 : State} {d : zD} {l : Launch} {a0 : Array Value} (hs0 : zS0 d a0 g0) (hst : l.stackTraces = false) {G : zG} {B : Nat → Nat} {V : Nat → Nat → Int32} {nk ns ne ec : Nat} (hM : zM d B V nk ns ne ec G) {si : Nat} (hsi : si < ns) {ki : Nat} (hki : ki < nk) (w : Int32) : zMet g0 d l y_Mo_shareNow c_Mo_shareNow 5 ((Option.some Jvm.ClassFile.FieldType.int)) 12 0 0 [.ref (B 0), .int (nI si), .int (nI ki), .int w] (G) (zEq (some (.int (qSm V si ki w))) G) (zNo) := by
  have hnk : nk ≤ 8 := hM.2.1
  have hns : ns ≤ 6 := hM.2.2.1
  have hne : ne ≤ 64 := hM.2.2.2.1
  have hp2 : 2 ^ nk ≤ 256 := Nat.pow_le_pow_right (n := 2) (by decide) hnk
  have hj : ki < 8 := by omega
  refine z_entry hs0 hst (by decide) (Nat.le_of_ble_eq_true rfl) (fun p e s m args below meth c => ?_)
  refine z_aload_n 0 d_Mo_shareNow_0 rfl rfl ?_
  refine z_get zc_Mo 7 (by decide) qF_Mo_20 hM.mo rfl d_Mo_shareNow_1 ?_
  refine z_iload_n 1 d_Mo_shareNow_4 rfl rfl ?_
  refine z_callF0 (m_AL_get hs0 hst (hM.sA hsi) hsi (if_pos hsi)) ym_AL_get zF_AL_get qM_Mo_51 zc_AL (hM.sA hsi).1 d_Mo_shareNow_5 rfl (Nat.le_of_ble_eq_true rfl) ⟨Nat.zero_le _, Nat.zero_le _⟩ ⟨Nat.le_of_ble_eq_true rfl, Nat.le_of_ble_eq_true rfl⟩ ?_
  refine z_castS zc_MS qK_Mo_47 (hM.se hsi).1 d_Mo_shareNow_10 ?_
  refine z_astore (L' := [(4, _), (0, _), (1, _), (2, _), (3, _)]) d_Mo_shareNow_13 (by decide) rfl ?_
  refine z_iload_n 4 d_Mo_shareNow_15 rfl rfl ?_
  refine z_if_ne 29 d_Mo_shareNow_16 (by decide) (fun c_16 => ?_) (fun c_16 => ?_)
  · skip
    refine z_iload_n 4 d_Mo_shareNow_29 rfl rfl ?_
    refine z_iconst (v := 1) d_Mo_shareNow_30 (by decide) ?_
    refine z_icmp_ne 44 d_Mo_shareNow_31 (by decide) (fun c_31 => ?_) (fun c_31 => ?_)
    · skip
      refine z_aload 0 d_Mo_shareNow_44 rfl ?_
      refine z_get zc_MS 6 (by decide) qF_Mo_46 (hM.se hsi).1 rfl d_Mo_shareNow_46 ?_
      refine z_iload_n 3 d_Mo_shareNow_49 rfl rfl ?_
      refine z_ialdN (hM.se hsi).2.1 (hj) (by decide) d_Mo_shareNow_50 ?_
      refine z_iconst (v := (-1)) d_Mo_shareNow_51 (by decide) ?_
      refine z_icmp_ne 59 d_Mo_shareNow_52 (by decide) (fun c_52 => ?_) (fun c_52 => ?_)
      · skip
        refine z_aload_n 1 d_Mo_shareNow_59 rfl rfl ?_
        refine z_aload 0 d_Mo_shareNow_60 rfl ?_
        refine z_iload_n 3 d_Mo_shareNow_62 rfl rfl ?_
        refine z_callV0 (m_Mo_gives hs0 hst hM hsi hki) ym_Mo_gives qM_Mo_80 qI_Mo_gives qV_Mo_Mo_gives zc_Mo hM.mo d_Mo_shareNow_63 rfl (Nat.le_of_ble_eq_true rfl) ⟨Nat.zero_le _, Nat.zero_le _⟩ ⟨Nat.le_of_ble_eq_true rfl, Nat.le_of_ble_eq_true rfl⟩ ?_
        exact z_iret rfl (⟨by unfold qSm; first | rw [if_pos c_16] | rw [if_neg c_16, if_pos c_31] | rw [if_neg c_16, if_neg c_31, if_pos c_52] | (rw [if_neg c_16, if_neg c_31, if_neg c_52]; rfl), rfl⟩) (by first | decide | omega) (by first | decide | omega) d_Mo_shareNow_66
      · skip
        refine z_iconst (v := (-1)) d_Mo_shareNow_55 (by decide) ?_
        refine z_goto 66 d_Mo_shareNow_56 (by decide) ?_
        exact z_iret rfl (⟨by unfold qSm; first | rw [if_pos c_16] | rw [if_neg c_16, if_pos c_31] | rw [if_neg c_16, if_neg c_31, if_pos c_52] | (rw [if_neg c_16, if_neg c_31, if_neg c_52]; rfl), rfl⟩) (by first | decide | omega) (by first | decide | omega) d_Mo_shareNow_66
    · skip
      refine z_aload 0 d_Mo_shareNow_34 rfl ?_
      refine z_get zc_MS 7 (by decide) qF_Mo_140 (hM.se hsi).1 rfl d_Mo_shareNow_36 ?_
      refine z_iload_n 3 d_Mo_shareNow_39 rfl rfl ?_
      refine z_ialdN (hM.se hsi).2.2.1 (hj) (by decide) d_Mo_shareNow_40 ?_
      refine z_goto 66 d_Mo_shareNow_41 (by decide) ?_
      exact z_iret rfl (⟨by unfold qSm; first | rw [if_pos c_16] | rw [if_neg c_16, if_pos c_31] | rw [if_neg c_16, if_neg c_31, if_pos c_52] | (rw [if_neg c_16, if_neg c_31, if_neg c_52]; rfl), rfl⟩) (by first | decide | omega) (by first | decide | omega) d_Mo_shareNow_66
  · skip
    refine z_aload 0 d_Mo_shareNow_19 rfl ?_
    refine z_get zc_MS 6 (by decide) qF_Mo_46 (hM.se hsi).1 rfl d_Mo_shareNow_21 ?_
    refine z_iload_n 3 d_Mo_shareNow_24 rfl rfl ?_
    refine z_ialdN (hM.se hsi).2.1 (hj) (by decide) d_Mo_shareNow_25 ?_
    refine z_goto 66 d_Mo_shareNow_26 (by decide) ?_
    exact z_iret rfl (⟨by unfold qSm; first | rw [if_pos c_16] | rw [if_neg c_16, if_pos c_31] | rw [if_neg c_16, if_neg c_31, if_pos c_52] | (rw [if_neg c_16, if_neg c_31, if_neg c_52]; rfl), rfl⟩) (by first | decide | omega) (by first | decide | omega) d_Mo_shareNow_66
set_option maxHeartbeats 4000000 in
set_option maxRecDepth 100000 in
theorem m_Mo_shareE {g0 : State} {d : zD} {l : Launch} {a0 : Array Value} (hs0 : zS0 d a0 g0) (hst : l.stackTraces = false) {G : zG} {B : Nat → Nat} {V : Nat → Nat → Int32} {nk ns ne ec : Nat} (hM : zM d B V nk ns ne ec G) (x z w : Int32) : zMet g0 d l y_Mo_share c_Mo_share 4 ((Option.some Jvm.ClassFile.FieldType.int)) 13 0 0 [.ref (B 0), .int x, .int z, .int w] (G) (mAq d B nk ns ne ec V G (rSh nk ns x z w)) (zNo) := by
  have hnk : nk ≤ 8 := hM.2.1
  have hns : ns ≤ 6 := hM.2.2.1
  have hne : ne ≤ 64 := hM.2.2.2.1
  have hp2 : 2 ^ nk ≤ 256 := Nat.pow_le_pow_right (n := 2) (by decide) hnk
  refine z_entry hs0 hst (by decide) (Nat.le_of_ble_eq_true rfl) (fun p e s m args below meth c => ?_)
  refine z_aload_n 0 d_Mo_share_0 rfl rfl ?_
  refine z_iconst (v := 0) d_Mo_share_1 (by decide) ?_
  refine z_put zc_Mo 0 (by decide) qF_Mo_36 hM.mo rfl rfl rfl (Nat.le_of_ble_eq_true rfl) d_Mo_share_2 ?_
  obtain ⟨V1, hM1, hK1, hF1, hT1⟩ := hM.putT 0
  refine z_aload_n 0 d_Mo_share_5 rfl rfl ?_
  refine z_iload_n 1 d_Mo_share_6 rfl rfl ?_
  refine z_callV0 (m_Mo_isSecret hs0 hst hM1 x) ym_Mo_isSecret qM_Mo_147 qI_Mo_isSecret qV_Mo_Mo_isSecret zc_Mo hM1.mo d_Mo_share_7 rfl (Nat.le_of_ble_eq_true rfl) ⟨Nat.zero_le _, Nat.zero_le _⟩ ⟨Nat.le_of_ble_eq_true rfl, Nat.le_of_ble_eq_true rfl⟩ ?_
  refine z_if_eq 21 d_Mo_share_10 (by decide) (fun c_10 => ?_) (fun c_10 => ?_)
  · skip
    refine z_aload_n 0 d_Mo_share_21 rfl rfl ?_
    refine z_iconst (v := 1) d_Mo_share_22 (by decide) ?_
    refine z_callV0 (m_Mo_no hs0 hst hM1.mo 1) ym_Mo_no qM_Mo_119 qI_Mo_no qV_Mo_Mo_no zc_Mo hM1.mo d_Mo_share_23 rfl (Nat.le_of_ble_eq_true rfl) ⟨Nat.zero_le _, Nat.zero_le _⟩ ⟨Nat.le_of_ble_eq_true rfl, Nat.le_of_ble_eq_true rfl⟩ ?_
    obtain ⟨V9, hM9, hK9, hF9, hT9⟩ := hM1.putT 1
    exact z_iret rfl (by first | exact ⟨_, V9, rfl, Or.inl ⟨Or.inl ((zb_0 _).mp c_10), hT9⟩, hM9, hK1.tr hK9, hF1.tr hF9⟩ | exact ⟨_, V9, rfl, Or.inl ⟨Or.inr ((zb_0 _).mp c_18), hT9⟩, hM9, hK1.tr hK9, hF1.tr hF9⟩) (by first | decide | omega) (by first | decide | omega) d_Mo_share_26
  · skip
    obtain ⟨si, hsi, rfl⟩ := zin_n ((zb_n0 _).mp c_10) (by omega)
    refine z_aload_n 0 d_Mo_share_13 rfl rfl ?_
    refine z_iload_n 2 d_Mo_share_14 rfl rfl ?_
    refine z_callV0 (m_Mo_isKeeper hs0 hst hM1 z) ym_Mo_isKeeper qM_Mo_125 qI_Mo_isKeeper qV_Mo_Mo_isKeeper zc_Mo hM1.mo d_Mo_share_15 rfl (Nat.le_of_ble_eq_true rfl) ⟨Nat.zero_le _, Nat.zero_le _⟩ ⟨Nat.le_of_ble_eq_true rfl, Nat.le_of_ble_eq_true rfl⟩ ?_
    refine z_if_ne 27 d_Mo_share_18 (by decide) (fun c_18 => ?_) (fun c_18 => ?_)
    · skip
      obtain ⟨ki, hki, rfl⟩ := zin_n ((zb_n0 _).mp c_18) (by omega)
      refine z_iload_n 3 d_Mo_share_27 rfl rfl ?_
      refine z_iconst (v := 0) d_Mo_share_28 (by decide) ?_
      refine z_iconst (v := 2) d_Mo_share_29 (by decide) ?_
      refine z_callS0 (m_Mo_in hs0 hst w 0 _) ym_Mo_in qM_Mo_115 qS_Mo_in d_Mo_share_30 rfl (Nat.le_of_ble_eq_true rfl) ⟨Nat.zero_le _, Nat.zero_le _⟩ ⟨Nat.le_of_ble_eq_true rfl, Nat.le_of_ble_eq_true rfl⟩ ?_
      refine z_if_ne 42 d_Mo_share_33 (by decide) (fun c_33 => ?_) (fun c_33 => ?_)
      · skip
        refine z_aload_n 0 d_Mo_share_42 rfl rfl ?_
        refine z_iload_n 1 d_Mo_share_43 rfl rfl ?_
        refine z_iload_n 2 d_Mo_share_44 rfl rfl ?_
        refine z_iload_n 3 d_Mo_share_45 rfl rfl ?_
        refine z_callV0 ((m_Mo_shareNowE hs0 hst hM1 hsi hki w)) ym_Mo_shareNow qM_Mo_213 qI_Mo_shareNow qV_Mo_Mo_shareNow zc_Mo hM1.mo d_Mo_share_46 rfl (Nat.le_of_ble_eq_true rfl) ⟨Nat.zero_le _, Nat.zero_le _⟩ ⟨Nat.le_of_ble_eq_true rfl, Nat.le_of_ble_eq_true rfl⟩ ?_
        exact z_iret rfl (⟨_, V1, rfl, Or.inr ⟨si, hsi, rfl, ki, hki, rfl, Or.inr ⟨(zb_n0 _).mp c_33, hT1, rfl⟩⟩, hM1, hK1, hF1⟩) (by first | decide | omega) (by first | decide | omega) d_Mo_share_49
      · skip
        refine z_aload_n 0 d_Mo_share_36 rfl rfl ?_
        refine z_iconst (v := 2) d_Mo_share_37 (by decide) ?_
        refine z_callV0 (m_Mo_no hs0 hst hM1.mo 2) ym_Mo_no qM_Mo_119 qI_Mo_no qV_Mo_Mo_no zc_Mo hM1.mo d_Mo_share_38 rfl (Nat.le_of_ble_eq_true rfl) ⟨Nat.zero_le _, Nat.zero_le _⟩ ⟨Nat.le_of_ble_eq_true rfl, Nat.le_of_ble_eq_true rfl⟩ ?_
        obtain ⟨V9, hM9, hK9, hF9, hT9⟩ := hM1.putT 2
        exact z_iret rfl (⟨_, V9, rfl, Or.inr ⟨si, hsi, rfl, ki, hki, rfl, Or.inl ⟨(zb_0 _).mp c_33, hT9⟩⟩, hM9, hK1.tr hK9, hF1.tr hF9⟩) (by first | decide | omega) (by first | decide | omega) d_Mo_share_41
    · skip
      refine z_aload_n 0 d_Mo_share_21 rfl rfl ?_
      refine z_iconst (v := 1) d_Mo_share_22 (by decide) ?_
      refine z_callV0 (m_Mo_no hs0 hst hM1.mo 1) ym_Mo_no qM_Mo_119 qI_Mo_no qV_Mo_Mo_no zc_Mo hM1.mo d_Mo_share_23 rfl (Nat.le_of_ble_eq_true rfl) ⟨Nat.zero_le _, Nat.zero_le _⟩ ⟨Nat.le_of_ble_eq_true rfl, Nat.le_of_ble_eq_true rfl⟩ ?_
      obtain ⟨V9, hM9, hK9, hF9, hT9⟩ := hM1.putT 1
      exact z_iret rfl (by first | exact ⟨_, V9, rfl, Or.inl ⟨Or.inl ((zb_0 _).mp c_10), hT9⟩, hM9, hK1.tr hK9, hF1.tr hF9⟩ | exact ⟨_, V9, rfl, Or.inl ⟨Or.inr ((zb_0 _).mp c_18), hT9⟩, hM9, hK1.tr hK9, hF1.tr hF9⟩) (by first | decide | omega) (by first | decide | omega) d_Mo_share_26
