
/-! what is asked, exactly: the class's answer by T, what is thrown by P; the reference's by T -/
def cAs (V : Nat → Nat → Int32) (T P : Int32 → Prop) (kk : Int32) (V' : Nat → Nat → Int32) (v : Int32) : Prop := zKo V V' ∧ ((kk = 0 ∧ T v) ∨ (kk ≠ 0 ∧ P kk))
def mAq (d : zD) (B : Nat → Nat) (nk ns ne ec : Nat) (V : Nat → Nat → Int32) (G : zG) (T : Int32 → Int32 → (Nat → Nat → Int32) → Prop) : Option Value → zG → Prop := fun r G1 => ∃ (v : Int32) (W' : Nat → Nat → Int32), r = some (.int v) ∧ T (W' 0 0) v W' ∧ zM d B W' nk ns ne ec G1 ∧ zKn V W' ∧ mFr B nk ns ne G G1

/-- what is told of a keeper: class, reference -/
def qKe (V : Nat → Nat → Int32) (ns k : Nat) (w : Int32) : Int32 := if w = 0 then V (100 + k) 1 else if w = 1 then V (100 + k) 2 else if w = 2 then V (100 + k) 3 else if w = 3 then V (100 + k) 4 else if w = 4 then (if V (100 + k) 5 = 0 then 0 else 1) else if w = 5 then nI (zcnt (fun i => decide (V (400 + i) k ≠ -1)) ns) else nI (zcnt (fun i => zstl (V (400 + i)) (V (200 + i) 3) k) ns)
def mKeA (W : Nat → Nat → Int32) (ns k : Nat) : Nat → Int32 := upd (upd (upd (upd (upd (upd (upd (fun _ => 0) 0 (W (100 + k) 0)) 1 (W (100 + k) 1)) 2 (W (100 + k) 2)) 3 (W (100 + k) 3)) 4 (if W (100 + k) 4 = 0 then 0 else 1)) 5 (nI (zcnt (fun i => decide (W (300 + i) k ≠ -1)) ns))) 6 (nI (zcnt (fun i => zst (W (300 + i)) (W (400 + i)) (W (200 + i) 3) k) ns))
def tKe (V : Nat → Nat → Int32) (nk ns : Nat) (x w v : Int32) : Prop := ∃ k, k < nk ∧ x = nI k ∧ zin w 0 6 = true ∧ v = qKe V ns k w
def pKe (nk : Nat) (x w kk : Int32) : Prop := (zoo nk x ∧ kk = 1) ∨ (∃ k, k < nk ∧ x = nI k ∧ zin w 0 6 = false ∧ kk = 2)
def rKe (nk ns : Nat) (x w t b : Int32) (W : Nat → Nat → Int32) : Prop := (zin x 0 (nI nk - 1) = false ∧ t = 1) ∨ (∃ k, k < nk ∧ x = nI k ∧ ((zin w 0 6 = false ∧ t = 2) ∨ (∃ q, q < 7 ∧ w = nI q ∧ t = 0 ∧ b = mKeA W ns k q)))

set_option maxHeartbeats 4000000 in
set_option maxRecDepth 100000 in
theorem m_Tb_tellOfKeeperE {g0 : State} {d : zD} {l : Launch} {a0 : Array Value} (hs0 : zS0 d a0 g0) (hst : l.stackTraces = false) {G : zG} {A : Nat → Nat} {D : Nat → UInt64} {V : Nat → Nat → Int32} {nk ns : Nat} (hT : zT d A D V nk ns G) {ki : Nat} (hki : ki < nk) (w : Int32) : zMet g0 d l y_Tb_tellOfKeeper c_Tb_tellOfKeeper 3 ((Option.some Jvm.ClassFile.FieldType.int)) 12 0 0 [.ref (A 0), .ref (A (100 + ki)), .int w] (G) (zEq (some (.int (qKe V ns ki w))) G) (zNo) := by
  have hG_Tb := hT.tb
  have hnk : nk ≤ 8 := hT.2.1
  have hns : ns ≤ 6 := hT.2.2.1
  refine z_entry hs0 hst (by decide) (Nat.le_of_ble_eq_true rfl) (fun p e s m args below meth c => ?_)
  refine z_iload_n 2 d_Tb_tellOfKeeper_0 rfl rfl ?_
  by_cases e0 : w = 0
  · subst e0
    refine z_tableIn 40 d_Tb_tellOfKeeper_1 (by decide) (by decide) rfl (by decide) ?_
    refine z_aload_n 1 d_Tb_tellOfKeeper_40 rfl rfl ?_
    refine z_get zc_Ke 1 (by decide) qF_Tb_170 (hT.ke hki) rfl d_Tb_tellOfKeeper_41 ?_
    exact z_iret rfl (⟨by unfold qKe; rw [if_pos rfl], rfl⟩) (by first | decide | omega) (by first | decide | omega) d_Tb_tellOfKeeper_44
  by_cases e1 : w = 1
  · subst e1
    refine z_tableIn 45 d_Tb_tellOfKeeper_1 (by decide) (by decide) rfl (by decide) ?_
    refine z_aload_n 1 d_Tb_tellOfKeeper_45 rfl rfl ?_
    refine z_get zc_Ke 2 (by decide) qF_Tb_363 (hT.ke hki) rfl d_Tb_tellOfKeeper_46 ?_
    exact z_iret rfl (⟨by unfold qKe; rw [if_neg (by decide), if_pos rfl], rfl⟩) (by first | decide | omega) (by first | decide | omega) d_Tb_tellOfKeeper_49
  by_cases e2 : w = 2
  · subst e2
    refine z_tableIn 50 d_Tb_tellOfKeeper_1 (by decide) (by decide) rfl (by decide) ?_
    refine z_aload_n 1 d_Tb_tellOfKeeper_50 rfl rfl ?_
    refine z_get zc_Ke 3 (by decide) qF_Tb_375 (hT.ke hki) rfl d_Tb_tellOfKeeper_51 ?_
    exact z_iret rfl (⟨by unfold qKe; rw [if_neg (by decide), if_neg (by decide), if_pos rfl], rfl⟩) (by first | decide | omega) (by first | decide | omega) d_Tb_tellOfKeeper_54
  by_cases e3 : w = 3
  · subst e3
    refine z_tableIn 55 d_Tb_tellOfKeeper_1 (by decide) (by decide) rfl (by decide) ?_
    refine z_aload_n 1 d_Tb_tellOfKeeper_55 rfl rfl ?_
    refine z_get zc_Ke 4 (by decide) qF_Tb_96 (hT.ke hki) rfl d_Tb_tellOfKeeper_56 ?_
    exact z_iret rfl (⟨by unfold qKe; rw [if_neg (by decide), if_neg (by decide), if_neg (by decide), if_pos rfl], rfl⟩) (by first | decide | omega) (by first | decide | omega) d_Tb_tellOfKeeper_59
  by_cases e4 : w = 4
  · subst e4
    refine z_tableIn 60 d_Tb_tellOfKeeper_1 (by decide) (by decide) rfl (by decide) ?_
    refine z_aload_n 1 d_Tb_tellOfKeeper_60 rfl rfl ?_
    refine z_get zc_Ke 5 (by decide) qF_Tb_348 (hT.ke hki) rfl d_Tb_tellOfKeeper_61 ?_
    refine z_if_eq 71 d_Tb_tellOfKeeper_64 (by decide) (fun c_64 => ?_) (fun c_64 => ?_)
    · skip
      refine z_iconst (v := 0) d_Tb_tellOfKeeper_71 (by decide) ?_
      exact z_iret rfl (⟨by unfold qKe; first | rw [if_neg (show ¬ (4 : Int32) = 0 by decide), if_neg (show ¬ (4 : Int32) = 1 by decide), if_neg (show ¬ (4 : Int32) = 2 by decide), if_neg (show ¬ (4 : Int32) = 3 by decide), if_pos rfl, if_pos c_64] | rw [if_neg (show ¬ (4 : Int32) = 0 by decide), if_neg (show ¬ (4 : Int32) = 1 by decide), if_neg (show ¬ (4 : Int32) = 2 by decide), if_neg (show ¬ (4 : Int32) = 3 by decide), if_pos rfl, if_neg c_64], rfl⟩) (by first | decide | omega) (by first | decide | omega) d_Tb_tellOfKeeper_72
    · skip
      refine z_iconst (v := 1) d_Tb_tellOfKeeper_67 (by decide) ?_
      refine z_goto 72 d_Tb_tellOfKeeper_68 (by decide) ?_
      exact z_iret rfl (⟨by unfold qKe; first | rw [if_neg (show ¬ (4 : Int32) = 0 by decide), if_neg (show ¬ (4 : Int32) = 1 by decide), if_neg (show ¬ (4 : Int32) = 2 by decide), if_neg (show ¬ (4 : Int32) = 3 by decide), if_pos rfl, if_pos c_64] | rw [if_neg (show ¬ (4 : Int32) = 0 by decide), if_neg (show ¬ (4 : Int32) = 1 by decide), if_neg (show ¬ (4 : Int32) = 2 by decide), if_neg (show ¬ (4 : Int32) = 3 by decide), if_pos rfl, if_neg c_64], rfl⟩) (by first | decide | omega) (by first | decide | omega) d_Tb_tellOfKeeper_72
  by_cases e5 : w = 5
  · subst e5
    refine z_tableIn 73 d_Tb_tellOfKeeper_1 (by decide) (by decide) rfl (by decide) ?_
    refine z_aload_n 0 d_Tb_tellOfKeeper_73 rfl rfl ?_
    refine z_aload_n 1 d_Tb_tellOfKeeper_74 rfl rfl ?_
    refine z_get zc_Ke 0 (by decide) qF_Tb_383 (hT.ke hki) rfl d_Tb_tellOfKeeper_75 ?_
    rw [hT.kn hki]
    refine z_callV0 (m_Tb_sharesOf hs0 hst hT (show ki < 8 by omega)) ym_Tb_sharesOf qM_Tb_173 qI_Tb_sharesOf qV_Tb_Tb_sharesOf zc_Tb hG_Tb d_Tb_tellOfKeeper_78 rfl (Nat.le_of_ble_eq_true rfl) ⟨Nat.zero_le _, Nat.zero_le _⟩ ⟨Nat.le_of_ble_eq_true rfl, Nat.le_of_ble_eq_true rfl⟩ ?_
    exact z_iret rfl (⟨by unfold qKe; rw [if_neg (by decide), if_neg (by decide), if_neg (by decide), if_neg (by decide), if_neg (by decide), if_pos rfl], rfl⟩) (by first | decide | omega) (by first | decide | omega) d_Tb_tellOfKeeper_81
  have ed : w.toInt < 0 ∨ 5 < w.toInt := by
    simp only [← Int32.toInt_inj, Int32.reduceToInt] at e0 e1 e2 e3 e4 e5
    omega
  · skip
    refine z_tableOut 82 d_Tb_tellOfKeeper_1 (ed) (by decide) ?_
    refine z_aload_n 0 d_Tb_tellOfKeeper_82 rfl rfl ?_
    refine z_aload_n 1 d_Tb_tellOfKeeper_83 rfl rfl ?_
    refine z_get zc_Ke 0 (by decide) qF_Tb_383 (hT.ke hki) rfl d_Tb_tellOfKeeper_84 ?_
    rw [hT.kn hki]
    refine z_callV0 (m_Tb_staleSharesOf hs0 hst hT (show ki < 8 by omega)) ym_Tb_staleSharesOf qM_Tb_386 qI_Tb_staleSharesOf qV_Tb_Tb_staleSharesOf zc_Tb hG_Tb d_Tb_tellOfKeeper_87 rfl (Nat.le_of_ble_eq_true rfl) ⟨Nat.zero_le _, Nat.zero_le _⟩ ⟨Nat.le_of_ble_eq_true rfl, Nat.le_of_ble_eq_true rfl⟩ ?_
    exact z_iret rfl (⟨by unfold qKe; rw [if_neg (fun e => by subst e; revert ed; decide), if_neg (fun e => by subst e; revert ed; decide), if_neg (fun e => by subst e; revert ed; decide), if_neg (fun e => by subst e; revert ed; decide), if_neg (fun e => by subst e; revert ed; decide), if_neg (fun e => by subst e; revert ed; decide)], rfl⟩) (by first | decide | omega) (by first | decide | omega) d_Tb_tellOfKeeper_90
set_option maxHeartbeats 4000000 in
set_option maxRecDepth 100000 in
theorem m_Tb_ofKeeperE {g0 : State} {d : zD} {l : Launch} {a0 : Array Value} (hs0 : zS0 d a0 g0) (hst : l.stackTraces = false) {G : zG} {A : Nat → Nat} {D : Nat → UInt64} {V : Nat → Nat → Int32} {nk ns : Nat} (hT : zT d A D V nk ns G) (x w : Int32) : zMet g0 d l y_Tb_ofKeeper c_Tb_ofKeeper 4 ((Option.some Jvm.ClassFile.FieldType.int)) 13 2 12 [.ref (A 0), .int x, .int w] (G) (zTu d A nk ns V G (fun r => ∃ v, r = some (.int v) ∧ tKe V nk ns x w v)) (zXo d A nk ns V G (fun E => (zoo nk x ∧ E = "java/lang/IndexOutOfBoundsException") ∨ (∃ k, k < nk ∧ x = nI k ∧ zin w 0 6 = false ∧ E = "java/lang/IllegalArgumentException"))) := by
  have hG_Tb := hT.tb
  have hnk : nk ≤ 8 := hT.2.1
  have hns : ns ≤ 6 := hT.2.2.1
  refine z_entry hs0 hst (by decide) (Nat.le_of_ble_eq_true rfl) (fun p e s m args below meth c => ?_)
  refine z_aload_n 0 d_Tb_ofKeeper_0 rfl rfl ?_
  refine z_iload_n 1 d_Tb_ofKeeper_1 rfl rfl ?_
  refine z_callV (m_Tb_keeperAt hs0 hst hT x) ym_Tb_keeperAt qM_Tb_86 qI_Tb_keeperAt qV_Tb_Tb_keeperAt zc_Tb hG_Tb d_Tb_ofKeeper_2 rfl (Nat.le_of_ble_eq_true rfl) ⟨by decide, by decide⟩ ⟨Nat.le_of_ble_eq_true rfl, Nat.le_of_ble_eq_true rfl⟩ ?_ ?_
  · exact fun E G9 hx => by
      obtain ⟨hx1, rfl, hx3⟩ := hx
      obtain rfl : G = G9 := hx3.symm
      exact z_out ⟨Or.inl ⟨hx1, rfl⟩, D, V, hT, zKo.rf, zFr.rf⟩ (by decide) (by decide)
  intro r_2 G_2 hp_2
  obtain ⟨ki, hki, rfl, rfl, hg_2⟩ := hp_2
  obtain rfl : G = G_2 := hg_2.symm
  refine z_astore_n (L' := [(3, _), (0, _), (1, _), (2, _)]) d_Tb_ofKeeper_5 rfl (by decide) rfl ?_
  refine z_iload_n 3 d_Tb_ofKeeper_6 rfl rfl ?_
  refine z_iconst (v := 0) d_Tb_ofKeeper_7 (by decide) ?_
  refine z_bipush (v := 6) d_Tb_ofKeeper_8 (by decide) ?_
  refine z_callS0 (m_Tb_isFrom hs0 hst w 0 _) ym_Tb_isFrom qM_Tb_57 qS_Tb_isFrom d_Tb_ofKeeper_10 rfl (Nat.le_of_ble_eq_true rfl) ⟨by decide, by decide⟩ ⟨Nat.le_of_ble_eq_true rfl, Nat.le_of_ble_eq_true rfl⟩ ?_
  refine z_if_ne 26 d_Tb_ofKeeper_13 (by decide) (fun c_13 => ?_) (fun c_13 => ?_)
  · skip
    refine z_aload_n 1 d_Tb_ofKeeper_26 rfl rfl ?_
    refine z_aload_n 0 d_Tb_ofKeeper_27 rfl rfl ?_
    refine z_iload_n 3 d_Tb_ofKeeper_28 rfl rfl ?_
    refine z_callV0 ((m_Tb_tellOfKeeperE hs0 hst hT hki w)) ym_Tb_tellOfKeeper qM_Tb_232 qI_Tb_tellOfKeeper qV_Tb_Tb_tellOfKeeper zc_Tb hG_Tb d_Tb_ofKeeper_29 rfl (Nat.le_of_ble_eq_true rfl) ⟨by decide, by decide⟩ ⟨Nat.le_of_ble_eq_true rfl, Nat.le_of_ble_eq_true rfl⟩ ?_
    exact z_iret rfl (⟨⟨_, rfl, ki, hki, rfl, (zb_n0 _).mp c_13, rfl⟩, D, V, hT, zKo.rf, zFr.rf⟩) (by first | decide | omega) (by first | decide | omega) d_Tb_ofKeeper_32
  · skip
    exact z_thS (names := ["java/lang/RuntimeException", "java/lang/Exception"]) (by decide) (by decide) qK_Tb_61 qN_IAE qR_Tb_230 th_65.1 th_65.2 d_Tb_ofKeeper_16 d_Tb_ofKeeper_19 d_Tb_ofKeeper_20 d_Tb_ofKeeper_22 d_Tb_ofKeeper_25 (by decide) (Nat.le_of_ble_eq_true rfl) ⟨by decide, by decide⟩ (⟨Or.inr ⟨ki, hki, rfl, (zb_0 _).mp c_13, rfl⟩, D, V, hT, zKo.rf, zFr.rf⟩) (by decide) (by decide)
