
/-! what is asked, exactly: the class's answer by T, what is thrown by P; the reference's by T -/
def cAs (V : Nat → Nat → Int32) (T P : Int32 → Prop) (kk : Int32) (V' : Nat → Nat → Int32) (v : Int32) : Prop := zKo V V' ∧ ((kk = 0 ∧ T v) ∨ (kk ≠ 0 ∧ P kk))
def mAq (d : zD) (B : Nat → Nat) (nk ns ne ec : Nat) (V : Nat → Nat → Int32) (G : zG) (T : Int32 → Int32 → (Nat → Nat → Int32) → Prop) : Option Value → zG → Prop := fun r G1 => ∃ (v : Int32) (W' : Nat → Nat → Int32), r = some (.int v) ∧ T (W' 0 0) v W' ∧ zM d B W' nk ns ne ec G1 ∧ zKn V W' ∧ mFr B nk ns ne G G1

def tMy (V : Nat → Nat → Int32) (nk ns : Nat) (x set w v : Int32) : Prop := ∃ si, si < ns ∧ x = nI si ∧ zsetok nk set = true ∧ zin w 0 96 = true ∧ ∃ V3, zGa V V3 si set nk ∧ v = zb (decide (zag (V3 13) (upd (V3 14) 0 (zfm w)) (V3 12 1 ||| (1 <<< (nI 0 &&& 31))) (zoc (V3 12 1 ||| (1 <<< (nI 0 &&& 31))) (V3 12 0) 9) = V3 12 1 ||| (1 <<< (nI 0 &&& 31))))
theorem tMy_b {V : Nat → Nat → Int32} {nk ns : Nat} {x set w v : Int32} (h : tMy V nk ns x set w v) : ∃ b, v = zb b := by
  obtain ⟨_, _, _, _, _, _, _, e⟩ := h
  exact ⟨_, e⟩
def pMy (nk ns : Nat) (x set w kk : Int32) : Prop := (zoo ns x ∧ kk = 1) ∨ (∃ si, si < ns ∧ x = nI si ∧ (zsetok nk set = false ∨ zin w 0 96 = false) ∧ kk = 2)

set_option maxHeartbeats 4000000 in
set_option maxRecDepth 100000 in
theorem m_Tb_mayE {g0 : State} {d : zD} {l : Launch} {a0 : Array Value} (hs0 : zS0 d a0 g0) (hst : l.stackTraces = false) {G : zG} {A : Nat → Nat} {D : Nat → UInt64} {V : Nat → Nat → Int32} {nk ns : Nat} (hT : zT d A D V nk ns G) (x set w : Int32) : zMet g0 d l y_Tb_may c_Tb_may 5 ((Option.some Jvm.ClassFile.FieldType.boolean)) 12 3 18 [.ref (A 0), .int x, .int set, .int w] (G) (zTu d A nk ns V G (fun r => ∃ v, r = some (.int v) ∧ tMy V nk ns x set w v)) (zXo d A nk ns V G (fun E => (zoo ns x ∧ E = "java/lang/IndexOutOfBoundsException") ∨ (∃ si, si < ns ∧ x = nI si ∧ (zsetok nk set = false ∨ zin w 0 96 = false) ∧ E = "java/lang/IllegalArgumentException"))) := by
  have hG_Tb := hT.tb
  have hnk : nk ≤ 8 := hT.2.1
  have hns : ns ≤ 6 := hT.2.2.1
  refine z_entry hs0 hst (by decide) (Nat.le_of_ble_eq_true rfl) (fun p e s m args below meth c => ?_)
  refine z_aload_n 0 d_Tb_may_0 rfl rfl ?_
  refine z_iload_n 1 d_Tb_may_1 rfl rfl ?_
  refine z_callV (m_Tb_secretAt hs0 hst hT x) ym_Tb_secretAt qM_Tb_140 qI_Tb_secretAt qV_Tb_Tb_secretAt zc_Tb (by first | exact hT4.tb | exact hT3.tb | exact hT.tb) d_Tb_may_2 rfl (Nat.le_of_ble_eq_true rfl) ⟨by decide, by decide⟩ ⟨Nat.le_of_ble_eq_true rfl, Nat.le_of_ble_eq_true rfl⟩ ?_ ?_
  · exact fun E G9 hx => by
      obtain ⟨hx1, rfl, hx3⟩ := hx
      obtain rfl : G = G9 := hx3.symm
      exact z_out ⟨Or.inl ⟨hx1, rfl⟩, D, V, hT, zKo.rf, zFr.rf⟩ (by decide) (by decide)
  intro r_2 G_2 hp_2
  obtain ⟨si, hsi, rfl, rfl, hg_2⟩ := hp_2
  obtain rfl : G = G_2 := hg_2.symm
  refine z_astore (L' := [(4, _), (0, _), (1, _), (2, _), (3, _)]) d_Tb_may_5 (by decide) rfl ?_
  refine z_aload_n 1 d_Tb_may_7 rfl rfl ?_
  refine z_iload_n 3 d_Tb_may_8 rfl rfl ?_
  refine z_callV (m_Tb_needSet hs0 hst hT set) ym_Tb_needSet qM_Tb_101 qI_Tb_needSet qV_Tb_Tb_needSet zc_Tb (by first | exact hT4.tb | exact hT3.tb | exact hT.tb) d_Tb_may_9 rfl (Nat.le_of_ble_eq_true rfl) ⟨by decide, by decide⟩ ⟨Nat.le_of_ble_eq_true rfl, Nat.le_of_ble_eq_true rfl⟩ ?_ ?_
  · exact fun E G9 hx => by
      obtain ⟨hx1, rfl, hx3⟩ := hx
      obtain rfl : G = G9 := hx3.symm
      exact z_out ⟨Or.inr ⟨si, hsi, rfl, Or.inl hx1, rfl⟩, D, V, hT, zKo.rf, zFr.rf⟩ (by decide) (by decide)
  intro r_9 G_9 hp_9
  obtain ⟨hs_9, hr_9, hg_9⟩ := hp_9
  obtain rfl : r_9 = none := hr_9
  obtain rfl : G = G_9 := hg_9.symm
  refine z_iload_n 4 d_Tb_may_12 rfl rfl ?_
  refine z_callS0 (m_Tb_isNumber hs0 hst w) ym_Tb_isNumber qM_Tb_90 qS_Tb_isNumber d_Tb_may_13 rfl (Nat.le_of_ble_eq_true rfl) ⟨by decide, by decide⟩ ⟨Nat.le_of_ble_eq_true rfl, Nat.le_of_ble_eq_true rfl⟩ ?_
  refine z_if_ne 30 d_Tb_may_16 (by decide) (fun c_16 => ?_) (fun c_16 => ?_)
  · skip
    refine z_aload_n 1 d_Tb_may_30 rfl rfl ?_
    refine z_aload 0 d_Tb_may_31 rfl ?_
    refine z_iload_n 3 d_Tb_may_33 rfl rfl ?_
    refine z_callVp0 ((m_Tb_gatherGroupE hs0 hst hT hsi set)) ym_Tb_gatherGroup qM_Tb_184 qI_Tb_gatherGroup qV_Tb_Tb_gatherGroup zc_Tb (by first | exact hT4.tb | exact hT3.tb | exact hT.tb) d_Tb_may_34 rfl (Nat.le_of_ble_eq_true rfl) ⟨by decide, by decide⟩ ⟨Nat.le_of_ble_eq_true rfl, Nat.le_of_ble_eq_true rfl⟩ (fun r_34 G_34 hp_34 => ?_)
    obtain ⟨hr_34, V3, hT3, hK3, hF3⟩ := hp_34
    obtain rfl : r_34 = none := hr_34
    refine z_aload_n 1 d_Tb_may_37 rfl rfl ?_
    refine z_get zc_Tb 4 (by decide) qF_Tb_36 (by first | exact hT4.tb | exact hT3.tb | exact hT.tb) rfl d_Tb_may_38 ?_
    refine z_iconst (v := (nI 0)) d_Tb_may_41 (by decide) ?_
    refine z_iload_n 4 d_Tb_may_42 rfl rfl ?_
    refine z_callVp0 (m_Gr_give hs0 hst hT3.gA (k := 0) (by decide) w) ym_Gr_give qM_Tb_288 qI_Gr_give qV_Gr_Gr_give zc_Gr hT3.gr d_Tb_may_43 rfl (Nat.le_of_ble_eq_true rfl) ⟨by decide, by decide⟩ ⟨Nat.le_of_ble_eq_true rfl, Nat.le_of_ble_eq_true rfl⟩ (fun r_43 G_43 hp_43 => ?_)
    obtain ⟨hr_43, hg_43⟩ := hp_43
    obtain rfl : r_43 = none := hr_43
    obtain ⟨hT4, hF4⟩ := hT3.giveE (k := 0) (by decide) w
    rw [← hg_43] at hT4 hF4
    refine z_aload_n 1 d_Tb_may_46 rfl rfl ?_
    refine z_get zc_Tb 4 (by decide) qF_Tb_36 (by first | exact hT4.tb | exact hT3.tb | exact hT.tb) rfl d_Tb_may_47 ?_
    refine z_callV0 (m_Gr_isOnOneCurve hs0 hst hT4.gA) ym_Gr_isOnOneCurve qM_Tb_291 qI_Gr_isOnOneCurve qV_Gr_Gr_isOnOneCurve zc_Gr hT4.gr d_Tb_may_50 rfl (Nat.le_of_ble_eq_true rfl) ⟨by decide, by decide⟩ ⟨Nat.le_of_ble_eq_true rfl, Nat.le_of_ble_eq_true rfl⟩ ?_
    exact z_zret rfl (by first | rfl | exact zb_nar _) (⟨⟨_, rfl, si, hsi, rfl, hs_9, (zb_n0 _).mp c_16, V3, hK3, rfl⟩, D, _, hT4, (hK3.2.2.tr (zKo.off (Or.inr rfl))).tr (zKo.off (Or.inl rfl)), hF3.tr hF4⟩) (by first | decide | omega) (by first | decide | omega) d_Tb_may_53
  · skip
    exact z_thSW (names := ["java/lang/RuntimeException", "java/lang/Exception"]) (by decide) (by decide) qK_Tb_61 qN_IAE qR_Tb_286 th_65.1 th_65.2 d_Tb_may_19 d_Tb_may_22 d_Tb_may_23 d_Tb_may_26 d_Tb_may_29 (by decide) (Nat.le_of_ble_eq_true rfl) ⟨by decide, by decide⟩ (⟨Or.inr ⟨si, hsi, rfl, Or.inr ((zb_0 _).mp c_16), rfl⟩, D, V, hT, zKo.rf, zFr.rf⟩) (by decide) (by decide)
