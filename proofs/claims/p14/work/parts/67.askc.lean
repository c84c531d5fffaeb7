
/-! what is asked, exactly: the class's answer by T, what is thrown by P; the reference's by T -/
def cAs (V : Nat → Nat → Int32) (T P : Int32 → Prop) (kk : Int32) (V' : Nat → Nat → Int32) (v : Int32) : Prop := zKo V V' ∧ ((kk = 0 ∧ T v) ∨ (kk ≠ 0 ∧ P kk))
def mAq (d : zD) (B : Nat → Nat) (nk ns ne ec : Nat) (V : Nat → Nat → Int32) (G : zG) (T : Int32 → Int32 → (Nat → Nat → Int32) → Prop) : Option Value → zG → Prop := fun r G1 => ∃ (v : Int32) (W' : Nat → Nat → Int32), r = some (.int v) ∧ T (W' 0 0) v W' ∧ zM d B W' nk ns ne ec G1 ∧ zKn V W' ∧ mFr B nk ns ne G G1

/-- what is told of a share: class, reference -/
def qSh (V : Nat → Nat → Int32) (si ki : Nat) (w : Int32) : Int32 := if V (400 + si) ki ≠ -1 then (if w = 0 then V (300 + si) ki else if w = 1 then V (400 + si) ki else zr97 (V (300 + si) ki + V (100 + ki) 4)) else -1
def qSm (W : Nat → Nat → Int32) (si ki : Nat) (w : Int32) : Int32 := if w = 0 then W (300 + si) ki else if w = 1 then W (400 + si) ki else if W (300 + si) ki = -1 then -1 else mgv W si ki
def tSh (V : Nat → Nat → Int32) (nk ns : Nat) (x z w v : Int32) : Prop := ∃ si, si < ns ∧ x = nI si ∧ ∃ ki, ki < nk ∧ z = nI ki ∧ zin w 0 2 = true ∧ v = qSh V si ki w
def pSh (nk ns : Nat) (x z w kk : Int32) : Prop := ((zoo ns x ∨ zoo nk z) ∧ kk = 1) ∨ (∃ si, si < ns ∧ x = nI si ∧ ∃ ki, ki < nk ∧ z = nI ki ∧ zin w 0 2 = false ∧ kk = 2)
def rSh (nk ns : Nat) (x z w t b : Int32) (W : Nat → Nat → Int32) : Prop := ((zin x 0 (nI ns - 1) = false ∨ zin z 0 (nI nk - 1) = false) ∧ t = 1) ∨ (∃ si, si < ns ∧ x = nI si ∧ ∃ ki, ki < nk ∧ z = nI ki ∧ ((zin w 0 2 = false ∧ t = 2) ∨ (zin w 0 2 = true ∧ t = 0 ∧ b = qSm W si ki w)))

set_option maxHeartbeats 4000000 in
set_option maxRecDepth 100000 in
theorem m_Tb_tellOfShareE {g0 : State} {d : zD} {l : Launch} {a0 : Array Value} (hs0 : zS0 d a0 g0) (hst : l.stackTraces = false) {G : zG} {A : Nat → Nat} {D : Nat → UInt64} {V : Nat → Nat → Int32} {nk ns : Nat} (hT : zT d A D V nk ns G) {si : Nat} (hsi : si < ns) {ki : Nat} (hki : ki < nk) (w : Int32) : zMet g0 d l y_Tb_tellOfShare c_Tb_tellOfShare 4 ((Option.some Jvm.ClassFile.FieldType.int)) 3 0 0 [.ref (A 0), .ref (A (200 + si)), .ref (A (100 + ki)), .int w] (G) (zEq (some (.int (qSh V si ki w))) G) (zNo) := by
  have hG_Tb := hT.tb
  have hnk : nk ≤ 8 := hT.2.1
  have hns : ns ≤ 6 := hT.2.2.1
  have hk8 : ki < 8 := by omega
  refine z_entry hs0 hst (by decide) (Nat.le_of_ble_eq_true rfl) (fun p e s m args below meth c => ?_)
  refine z_aload_n 1 d_Tb_tellOfShare_0 rfl rfl ?_
  refine z_aload_n 2 d_Tb_tellOfShare_1 rfl rfl ?_
  refine z_get zc_Ke 0 (by decide) qF_Tb_383 (hT.ke hki) rfl d_Tb_tellOfShare_2 ?_
  rw [hT.kn hki]
  refine z_callV0 (m_Se_has hs0 hst (hT.se hsi) hk8) ym_Se_has qM_Tb_270 qI_Se_has qV_Se_Se_has zc_Se (hT.se hsi).1 d_Tb_tellOfShare_5 rfl (Nat.le_of_ble_eq_true rfl) ⟨Nat.zero_le _, Nat.zero_le _⟩ ⟨Nat.le_of_ble_eq_true rfl, Nat.le_of_ble_eq_true rfl⟩ ?_
  refine z_if_ne 13 d_Tb_tellOfShare_8 (by decide) (fun c_8 => ?_) (fun c_8 => ?_)
  · skip
    refine z_iload_n 3 d_Tb_tellOfShare_13 rfl rfl ?_
    by_cases e0 : w = 0
    · subst e0
      refine z_lookup (off := 26) 40 d_Tb_tellOfShare_14 (by decide) (by decide +kernel) (by decide) ?_
      refine z_aload_n 1 d_Tb_tellOfShare_40 rfl rfl ?_
      refine z_aload_n 2 d_Tb_tellOfShare_41 rfl rfl ?_
      refine z_get zc_Ke 0 (by decide) qF_Tb_383 (hT.ke hki) rfl d_Tb_tellOfShare_42 ?_
      rw [hT.kn hki]
      refine z_callV0 (m_Se_shareOf hs0 hst (hT.se hsi) hk8) ym_Se_shareOf qM_Tb_155 qI_Se_shareOf qV_Se_Se_shareOf zc_Se (hT.se hsi).1 d_Tb_tellOfShare_45 rfl (Nat.le_of_ble_eq_true rfl) ⟨Nat.zero_le _, Nat.zero_le _⟩ ⟨Nat.le_of_ble_eq_true rfl, Nat.le_of_ble_eq_true rfl⟩ ?_
      exact z_iret rfl (⟨by unfold qSh; rw [if_pos (of_decide_eq_true ((zb_n0 _).mp c_8)), if_pos rfl], rfl⟩) (by first | decide | omega) (by first | decide | omega) d_Tb_tellOfShare_48
    by_cases e1 : w = 1
    · subst e1
      refine z_lookup (off := 35) 49 d_Tb_tellOfShare_14 (by decide) (by decide +kernel) (by decide) ?_
      refine z_aload_n 1 d_Tb_tellOfShare_49 rfl rfl ?_
      refine z_aload_n 2 d_Tb_tellOfShare_50 rfl rfl ?_
      refine z_get zc_Ke 0 (by decide) qF_Tb_383 (hT.ke hki) rfl d_Tb_tellOfShare_51 ?_
      rw [hT.kn hki]
      refine z_callV0 (m_Se_epochOf hs0 hst (hT.se hsi) hk8) ym_Se_epochOf qM_Tb_395 qI_Se_epochOf qV_Se_Se_epochOf zc_Se (hT.se hsi).1 d_Tb_tellOfShare_54 rfl (Nat.le_of_ble_eq_true rfl) ⟨Nat.zero_le _, Nat.zero_le _⟩ ⟨Nat.le_of_ble_eq_true rfl, Nat.le_of_ble_eq_true rfl⟩ ?_
      exact z_iret rfl (⟨by unfold qSh; rw [if_pos (of_decide_eq_true ((zb_n0 _).mp c_8)), if_neg (by decide), if_pos rfl], rfl⟩) (by first | decide | omega) (by first | decide | omega) d_Tb_tellOfShare_57
    refine z_lookup (off := 44) 58 d_Tb_tellOfShare_14 (by decide) ((lv_osw e0 rfl).trans ((lv_osw e1 rfl).trans (rfl))) (by decide) ?_
    refine z_aload_n 1 d_Tb_tellOfShare_58 rfl rfl ?_
    refine z_aload_n 2 d_Tb_tellOfShare_59 rfl rfl ?_
    refine z_get zc_Ke 0 (by decide) qF_Tb_383 (hT.ke hki) rfl d_Tb_tellOfShare_60 ?_
    rw [hT.kn hki]
    refine z_callV0 (m_Se_shareOf hs0 hst (hT.se hsi) hk8) ym_Se_shareOf qM_Tb_155 qI_Se_shareOf qV_Se_Se_shareOf zc_Se (hT.se hsi).1 d_Tb_tellOfShare_63 rfl (Nat.le_of_ble_eq_true rfl) ⟨Nat.zero_le _, Nat.zero_le _⟩ ⟨Nat.le_of_ble_eq_true rfl, Nat.le_of_ble_eq_true rfl⟩ ?_
    refine z_aload_n 2 d_Tb_tellOfShare_66 rfl rfl ?_
    refine z_get zc_Ke 4 (by decide) qF_Tb_96 (hT.ke hki) rfl d_Tb_tellOfShare_67 ?_
    refine z_iadd d_Tb_tellOfShare_70 ?_
    refine z_bipush (v := 97) d_Tb_tellOfShare_71 (by decide) ?_
    refine z_irem d_Tb_tellOfShare_73 (by decide) ?_
    exact z_iret rfl (⟨by unfold qSh; rw [if_pos (of_decide_eq_true ((zb_n0 _).mp c_8)), if_neg e0, if_neg e1]; rfl, rfl⟩) (by first | decide | omega) (by first | decide | omega) d_Tb_tellOfShare_74
  · skip
    refine z_iconst (v := (-1)) d_Tb_tellOfShare_11 (by decide) ?_
    exact z_iret rfl (⟨by unfold qSh; rw [if_neg (of_decide_eq_false ((zb_0 _).mp c_8))], rfl⟩) (by first | decide | omega) (by first | decide | omega) d_Tb_tellOfShare_12
set_option maxHeartbeats 4000000 in
set_option maxRecDepth 100000 in
theorem m_Tb_shareE {g0 : State} {d : zD} {l : Launch} {a0 : Array Value} (hs0 : zS0 d a0 g0) (hst : l.stackTraces = false) {G : zG} {A : Nat → Nat} {D : Nat → UInt64} {V : Nat → Nat → Int32} {nk ns : Nat} (hT : zT d A D V nk ns G) (x z w : Int32) : zMet g0 d l y_Tb_share c_Tb_share 6 ((Option.some Jvm.ClassFile.FieldType.int)) 12 3 18 [.ref (A 0), .int x, .int z, .int w] (G) (zTu d A nk ns V G (fun r => ∃ v, r = some (.int v) ∧ tSh V nk ns x z w v)) (zXo d A nk ns V G (fun E => ((zoo ns x ∨ zoo nk z) ∧ E = "java/lang/IndexOutOfBoundsException") ∨ (∃ si, si < ns ∧ x = nI si ∧ ∃ ki, ki < nk ∧ z = nI ki ∧ zin w 0 2 = false ∧ E = "java/lang/IllegalArgumentException"))) := by
  have hG_Tb := hT.tb
  have hnk : nk ≤ 8 := hT.2.1
  have hns : ns ≤ 6 := hT.2.2.1
  refine z_entry hs0 hst (by decide) (Nat.le_of_ble_eq_true rfl) (fun p e s m args below meth c => ?_)
  refine z_aload_n 0 d_Tb_share_0 rfl rfl ?_
  refine z_iload_n 1 d_Tb_share_1 rfl rfl ?_
  refine z_callV (m_Tb_secretAt hs0 hst hT x) ym_Tb_secretAt qM_Tb_140 qI_Tb_secretAt qV_Tb_Tb_secretAt zc_Tb hG_Tb d_Tb_share_2 rfl (Nat.le_of_ble_eq_true rfl) ⟨by decide, by decide⟩ ⟨Nat.le_of_ble_eq_true rfl, Nat.le_of_ble_eq_true rfl⟩ ?_ ?_
  · exact fun E G9 hx => by
      obtain ⟨hx1, rfl, hx3⟩ := hx
      obtain rfl : G = G9 := hx3.symm
      exact z_out ⟨Or.inl ⟨Or.inl hx1, rfl⟩, D, V, hT, zKo.rf, zFr.rf⟩ (by decide) (by decide)
  intro r_2 G_2 hp_2
  obtain ⟨si, hsi, rfl, rfl, hg_2⟩ := hp_2
  obtain rfl : G = G_2 := hg_2.symm
  refine z_astore (L' := [(4, _), (0, _), (1, _), (2, _), (3, _)]) d_Tb_share_5 (by decide) rfl ?_
  refine z_aload_n 1 d_Tb_share_7 rfl rfl ?_
  refine z_iload_n 3 d_Tb_share_8 rfl rfl ?_
  refine z_callV (m_Tb_keeperAt hs0 hst hT z) ym_Tb_keeperAt qM_Tb_86 qI_Tb_keeperAt qV_Tb_Tb_keeperAt zc_Tb hG_Tb d_Tb_share_9 rfl (Nat.le_of_ble_eq_true rfl) ⟨by decide, by decide⟩ ⟨Nat.le_of_ble_eq_true rfl, Nat.le_of_ble_eq_true rfl⟩ ?_ ?_
  · exact fun E G9 hx => by
      obtain ⟨hx1, rfl, hx3⟩ := hx
      obtain rfl : G = G9 := hx3.symm
      exact z_out ⟨Or.inl ⟨Or.inr hx1, rfl⟩, D, V, hT, zKo.rf, zFr.rf⟩ (by decide) (by decide)
  intro r_9 G_9 hp_9
  obtain ⟨ki, hki, rfl, rfl, hg_9⟩ := hp_9
  obtain rfl : G = G_9 := hg_9.symm
  refine z_astore (L' := [(5, _), (4, _), (0, _), (1, _), (2, _), (3, _)]) d_Tb_share_12 (by decide) rfl ?_
  refine z_iload_n 5 d_Tb_share_14 rfl rfl ?_
  refine z_iconst (v := 0) d_Tb_share_15 (by decide) ?_
  refine z_iconst (v := 2) d_Tb_share_16 (by decide) ?_
  refine z_callS0 (m_Tb_isFrom hs0 hst w 0 _) ym_Tb_isFrom qM_Tb_57 qS_Tb_isFrom d_Tb_share_17 rfl (Nat.le_of_ble_eq_true rfl) ⟨by decide, by decide⟩ ⟨Nat.le_of_ble_eq_true rfl, Nat.le_of_ble_eq_true rfl⟩ ?_
  refine z_if_ne 33 d_Tb_share_20 (by decide) (fun c_20 => ?_) (fun c_20 => ?_)
  · skip
    refine z_aload_n 2 d_Tb_share_33 rfl rfl ?_
    refine z_aload 1 d_Tb_share_34 rfl ?_
    refine z_aload 0 d_Tb_share_36 rfl ?_
    refine z_iload_n 5 d_Tb_share_38 rfl rfl ?_
    refine z_callV0 ((m_Tb_tellOfShareE hs0 hst hT hsi hki w)) ym_Tb_tellOfShare qM_Tb_244 qI_Tb_tellOfShare qV_Tb_Tb_tellOfShare zc_Tb hG_Tb d_Tb_share_39 rfl (Nat.le_of_ble_eq_true rfl) ⟨by decide, by decide⟩ ⟨Nat.le_of_ble_eq_true rfl, Nat.le_of_ble_eq_true rfl⟩ ?_
    exact z_iret rfl (⟨⟨_, rfl, si, hsi, rfl, ki, hki, rfl, (zb_n0 _).mp c_20, rfl⟩, D, V, hT, zKo.rf, zFr.rf⟩) (by first | decide | omega) (by first | decide | omega) d_Tb_share_42
  · skip
    exact z_thS (names := ["java/lang/RuntimeException", "java/lang/Exception"]) (by decide) (by decide) qK_Tb_61 qN_IAE qR_Tb_242 th_65.1 th_65.2 d_Tb_share_23 d_Tb_share_26 d_Tb_share_27 d_Tb_share_29 d_Tb_share_32 (by decide) (Nat.le_of_ble_eq_true rfl) ⟨by decide, by decide⟩ (⟨Or.inr ⟨si, hsi, rfl, ki, hki, rfl, (zb_0 _).mp c_20, rfl⟩, D, V, hT, zKo.rf, zFr.rf⟩) (by decide) (by decide)
