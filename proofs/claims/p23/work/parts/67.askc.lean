
/-! what is asked, exactly: the class's answer by T, what is thrown by P; the reference's by T -/
def cAs (V : Nat → Nat → Int32) (T P : Int32 → Prop) (kk : Int32) (V' : Nat → Nat → Int32) (v : Int32) : Prop := zKo V V' ∧ ((kk = 0 ∧ T v) ∨ (kk ≠ 0 ∧ P kk))
def mAq (d : zD) (B : Nat → Nat) (nk ns ne ec : Nat) (V : Nat → Nat → Int32) (G : zG) (T : Int32 → Int32 → (Nat → Nat → Int32) → Prop) : Option Value → zG → Prop := fun r G1 => ∃ (v : Int32) (W' : Nat → Nat → Int32), r = some (.int v) ∧ T (W' 0 0) v W' ∧ zM d B W' nk ns ne ec G1 ∧ zKn V W' ∧ mFr B nk ns ne G G1

def tPv (V : Nat → Nat → Int32) (x w v : Int32) : Prop := zin x 0 (V 5 0 - 1) = true ∧ zin w 0 9972 = true ∧ v = zb (zcomes (V 9) x w)
def pPv (V : Nat → Nat → Int32) (x w kk : Int32) : Prop := (zin x 0 (V 5 0 - 1) = false ∧ kk = 1) ∨ (zin x 0 (V 5 0 - 1) = true ∧ zin w 0 9972 = false ∧ kk = 2)

set_option maxHeartbeats 4000000 in
set_option maxRecDepth 100000 in
theorem m_Tb_provesE {g0 : State} {d : zD} {l : Launch} {a0 : Array Value} (hs0 : zS0 d a0 g0) (hst : l.stackTraces = false) {G : zG} {A : Nat → Nat} {D : Nat → UInt64} {V : Nat → Nat → Int32} {nk ns : Nat} (hT : zT d A D V nk ns G) (x w : Int32) : zMet g0 d l y_Tb_proves c_Tb_proves 3 ((Option.some Jvm.ClassFile.FieldType.boolean)) 9 2 12 [.ref (A 0), .int x, .int w] (G) (zTu d A nk ns V G (fun r => ∃ v, r = some (.int v) ∧ tPv V x w v)) (zXo d A nk ns V G (fun E => (zin x 0 (V 5 0 - 1) = false ∧ E = "java/lang/IndexOutOfBoundsException") ∨ (zin x 0 (V 5 0 - 1) = true ∧ zin w 0 9972 = false ∧ E = "java/lang/IllegalArgumentException"))) := by
  have hG_Tb := hT.tb
  have hnk : nk ≤ 8 := hT.2.1
  have hns : ns ≤ 6 := hT.2.2.1
  refine z_entry hs0 hst (by decide) (Nat.le_of_ble_eq_true rfl) (fun p e s m args below meth c => ?_)
  refine z_aload_n 0 d_Tb_proves_0 rfl rfl ?_
  refine z_iload_n 1 d_Tb_proves_1 rfl rfl ?_
  refine z_callV (m_Tb_needEntry hs0 hst hT x) ym_Tb_needEntry qM_Tb_253 qI_Tb_needEntry qV_Tb_Tb_needEntry zc_Tb hG_Tb d_Tb_proves_2 rfl (Nat.le_of_ble_eq_true rfl) ⟨by decide, by decide⟩ ⟨Nat.le_of_ble_eq_true rfl, Nat.le_of_ble_eq_true rfl⟩ ?_ ?_
  · exact fun E G9 hx => by
      obtain ⟨hx1, rfl, hx3⟩ := hx
      obtain rfl : G = G9 := hx3.symm
      exact z_out ⟨Or.inl ⟨hx1, rfl⟩, D, V, hT, zKo.rf, zFr.rf⟩ (by decide) (by decide)
  intro r_2 G_2 hp_2
  obtain ⟨hs_2, hr_2, hg_2⟩ := hp_2
  obtain rfl : r_2 = none := hr_2
  obtain rfl : G = G_2 := hg_2.symm
  refine z_iload_n 2 d_Tb_proves_5 rfl rfl ?_
  refine z_iconst (v := 0) d_Tb_proves_6 (by decide) ?_
  refine z_sipush (v := 9972) d_Tb_proves_7 (by decide) ?_
  refine z_callS0 (m_Tb_isFrom hs0 hst w 0 _) ym_Tb_isFrom qM_Tb_57 qS_Tb_isFrom d_Tb_proves_10 rfl (Nat.le_of_ble_eq_true rfl) ⟨by decide, by decide⟩ ⟨Nat.le_of_ble_eq_true rfl, Nat.le_of_ble_eq_true rfl⟩ ?_
  refine z_if_ne 27 d_Tb_proves_13 (by decide) (fun c_13 => ?_) (fun c_13 => ?_)
  · skip
    refine z_aload_n 0 d_Tb_proves_27 rfl rfl ?_
    refine z_get zc_Tb 2 (by decide) qF_Tb_22 hG_Tb rfl d_Tb_proves_28 ?_
    refine z_iload_n 1 d_Tb_proves_31 rfl rfl ?_
    refine z_iload_n 2 d_Tb_proves_32 rfl rfl ?_
    refine z_callV0 (m_Re_comesToRoot hs0 hst hT.re (hT.1.2 9 (tl_s 9)) x w) ym_Re_comesToRoot qM_Tb_304 qI_Re_comesToRoot qV_Re_Re_comesToRoot zc_Re hT.re d_Tb_proves_33 rfl (Nat.le_of_ble_eq_true rfl) ⟨by decide, by decide⟩ ⟨Nat.le_of_ble_eq_true rfl, Nat.le_of_ble_eq_true rfl⟩ ?_
    exact z_zret rfl (by first | rfl | exact zb_nar _) (⟨⟨_, rfl, hs_2, (zb_n0 _).mp c_13, rfl⟩, D, V, hT, zKo.rf, zFr.rf⟩) (by first | decide | omega) (by first | decide | omega) d_Tb_proves_36
  · skip
    exact z_thSW (names := ["java/lang/RuntimeException", "java/lang/Exception"]) (by decide) (by decide) qK_Tb_61 qN_IAE qR_Tb_302 th_65.1 th_65.2 d_Tb_proves_16 d_Tb_proves_19 d_Tb_proves_20 d_Tb_proves_23 d_Tb_proves_26 (by decide) (Nat.le_of_ble_eq_true rfl) ⟨by decide, by decide⟩ (⟨Or.inr ⟨hs_2, (zb_0 _).mp c_13, rfl⟩, D, V, hT, zKo.rf, zFr.rf⟩) (by decide) (by decide)
