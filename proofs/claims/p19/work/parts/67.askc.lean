
/-! what is asked, exactly: the class's answer by T, what is thrown by P; the reference's by T -/
def cAs (V : Nat → Nat → Int32) (T P : Int32 → Prop) (kk : Int32) (V' : Nat → Nat → Int32) (v : Int32) : Prop := zKo V V' ∧ ((kk = 0 ∧ T v) ∨ (kk ≠ 0 ∧ P kk))
def mAq (d : zD) (B : Nat → Nat) (nk ns ne ec : Nat) (V : Nat → Nat → Int32) (G : zG) (T : Int32 → Int32 → (Nat → Nat → Int32) → Prop) : Option Value → zG → Prop := fun r G1 => ∃ (v : Int32) (W' : Nat → Nat → Int32), r = some (.int v) ∧ T (W' 0 0) v W' ∧ zM d B W' nk ns ne ec G1 ∧ zKn V W' ∧ mFr B nk ns ne G G1

/-- what is told of a group laid and searched -/
def qGr (V : Nat → Nat → Int32) (nk si : Nat) (w : Int32) : Int32 := if w = 0 then zbc (V 12 1) else if w = 1 then zb (zlw V nk si (V 12 1 >>> ((1 : Int32) &&& 31))) else if w = 2 then zb (zgood_ (V 12 0) (V 12 1) (V 12 3)) else if w = 3 then (if zgood_ (V 12 0) (V 12 1) (V 12 3) = true then zth (V 13) (V 14) (V 12 2) 0 else -1) else if w = 4 then (if zgood_ (V 12 0) (V 12 1) (V 12 3) = true then (V 12 1 &&& (V 12 3 ^^^ (-1))) >>> ((1 : Int32) &&& 31) else 0) else zbc (V 12 3)

def tWd (V : Nat → Nat → Int32) (nk ns : Nat) (x set w v : Int32) : Prop := ∃ si, si < ns ∧ x = nI si ∧ zsetok nk set = true ∧ zin w 0 5 = true ∧ ∃ V4, zDd V V4 nk si set ∧ v = qGr V4 nk si w
def pWd (nk ns : Nat) (x set w kk : Int32) : Prop := (zoo ns x ∧ kk = 1) ∨ (∃ si, si < ns ∧ x = nI si ∧ (zsetok nk set = false ∨ zin w 0 5 = false) ∧ kk = 2)

set_option maxHeartbeats 4000000 in
set_option maxRecDepth 100000 in
theorem m_Tb_tellOfGroupE {g0 : State} {d : zD} {l : Launch} {a0 : Array Value} (hs0 : zS0 d a0 g0) (hst : l.stackTraces = false) {G : zG} {A : Nat → Nat} {D : Nat → UInt64} {V : Nat → Nat → Int32} {nk ns : Nat} (hT : zT d A D V nk ns G) {si : Nat} (hsi : si < ns) (w : Int32) : zMet g0 d l y_Tb_tellOfGroup c_Tb_tellOfGroup 3 ((Option.some Jvm.ClassFile.FieldType.int)) 13 0 0 [.ref (A 0), .ref (A (200 + si)), .int w] (G) (zEq (some (.int (qGr V nk si w))) G) (zNo) := by
  have hG_Tb := hT.tb
  have hnk : nk ≤ 8 := hT.2.1
  have hns : ns ≤ 6 := hT.2.2.1
  refine z_entry hs0 hst (by decide) (Nat.le_of_ble_eq_true rfl) (fun p e s m args below meth c => ?_)
  refine z_iload_n 2 d_Tb_tellOfGroup_0 rfl rfl ?_
  by_cases e0 : w = 0
  · subst e0
    refine z_tableIn 36 d_Tb_tellOfGroup_1 (by decide) (by decide) rfl (by decide) ?_
    refine z_aload_n 0 d_Tb_tellOfGroup_36 rfl rfl ?_
    refine z_get zc_Tb 4 (by decide) qF_Tb_36 hG_Tb rfl d_Tb_tellOfGroup_37 ?_
    refine z_callV0 (m_Gr_size hs0 hst hT.gA) ym_Gr_size qM_Tb_210 qI_Gr_size qV_Gr_Gr_size zc_Gr hT.gr d_Tb_tellOfGroup_40 rfl (Nat.le_of_ble_eq_true rfl) ⟨Nat.zero_le _, Nat.zero_le _⟩ ⟨Nat.le_of_ble_eq_true rfl, Nat.le_of_ble_eq_true rfl⟩ ?_
    exact z_iret rfl (⟨by unfold qGr; rw [if_pos rfl], rfl⟩) (by first | decide | omega) (by first | decide | omega) d_Tb_tellOfGroup_43
  by_cases e1 : w = 1
  · subst e1
    refine z_tableIn 44 d_Tb_tellOfGroup_1 (by decide) (by decide) rfl (by decide) ?_
    refine z_aload_n 0 d_Tb_tellOfGroup_44 rfl rfl ?_
    refine z_aload_n 1 d_Tb_tellOfGroup_45 rfl rfl ?_
    refine z_aload_n 0 d_Tb_tellOfGroup_46 rfl rfl ?_
    refine z_get zc_Tb 4 (by decide) qF_Tb_36 hG_Tb rfl d_Tb_tellOfGroup_47 ?_
    refine z_callV0 (m_Gr_members hs0 hst hT.gA) ym_Gr_members qM_Tb_200 qI_Gr_members qV_Gr_Gr_members zc_Gr hT.gr d_Tb_tellOfGroup_50 rfl (Nat.le_of_ble_eq_true rfl) ⟨Nat.zero_le _, Nat.zero_le _⟩ ⟨Nat.le_of_ble_eq_true rfl, Nat.le_of_ble_eq_true rfl⟩ ?_
    refine z_callV0 ((m_Tb_isLawfulE hs0 hst hT (hT.se hsi) _)) ym_Tb_isLawful qM_Tb_220 qI_Tb_isLawful qV_Tb_Tb_isLawful zc_Tb hG_Tb d_Tb_tellOfGroup_53 rfl (Nat.le_of_ble_eq_true rfl) ⟨Nat.zero_le _, Nat.zero_le _⟩ ⟨Nat.le_of_ble_eq_true rfl, Nat.le_of_ble_eq_true rfl⟩ ?_
    refine z_if_eq 63 d_Tb_tellOfGroup_56 (by decide) (fun c_56 => ?_) (fun c_56 => ?_)
    · skip
      refine z_iconst (v := 0) d_Tb_tellOfGroup_63 (by decide) ?_
      exact z_iret rfl (⟨by unfold qGr; rw [if_neg (by decide), if_pos rfl]; first | exact congrArg (fun b => some (Value.int (zb b))) ((zb_0 _).mp c_56).symm | exact congrArg (fun b => some (Value.int (zb b))) ((zb_n0 _).mp c_56).symm, rfl⟩) (by first | decide | omega) (by first | decide | omega) d_Tb_tellOfGroup_64
    · skip
      refine z_iconst (v := 1) d_Tb_tellOfGroup_59 (by decide) ?_
      refine z_goto 64 d_Tb_tellOfGroup_60 (by decide) ?_
      exact z_iret rfl (⟨by unfold qGr; rw [if_neg (by decide), if_pos rfl]; first | exact congrArg (fun b => some (Value.int (zb b))) ((zb_0 _).mp c_56).symm | exact congrArg (fun b => some (Value.int (zb b))) ((zb_n0 _).mp c_56).symm, rfl⟩) (by first | decide | omega) (by first | decide | omega) d_Tb_tellOfGroup_64
  by_cases e2 : w = 2
  · subst e2
    refine z_tableIn 65 d_Tb_tellOfGroup_1 (by decide) (by decide) rfl (by decide) ?_
    refine z_aload_n 0 d_Tb_tellOfGroup_65 rfl rfl ?_
    refine z_get zc_Tb 4 (by decide) qF_Tb_36 hG_Tb rfl d_Tb_tellOfGroup_66 ?_
    refine z_callV0 (m_Gr_isGood hs0 hst hT.gA) ym_Gr_isGood qM_Tb_191 qI_Gr_isGood qV_Gr_Gr_isGood zc_Gr hT.gr d_Tb_tellOfGroup_69 rfl (Nat.le_of_ble_eq_true rfl) ⟨Nat.zero_le _, Nat.zero_le _⟩ ⟨Nat.le_of_ble_eq_true rfl, Nat.le_of_ble_eq_true rfl⟩ ?_
    refine z_if_eq 79 d_Tb_tellOfGroup_72 (by decide) (fun c_72 => ?_) (fun c_72 => ?_)
    · skip
      refine z_iconst (v := 0) d_Tb_tellOfGroup_79 (by decide) ?_
      exact z_iret rfl (⟨by unfold qGr; rw [if_neg (by decide), if_neg (by decide), if_pos rfl]; first | exact congrArg (fun b => some (Value.int (zb b))) ((zb_0 _).mp c_72).symm | exact congrArg (fun b => some (Value.int (zb b))) ((zb_n0 _).mp c_72).symm, rfl⟩) (by first | decide | omega) (by first | decide | omega) d_Tb_tellOfGroup_80
    · skip
      refine z_iconst (v := 1) d_Tb_tellOfGroup_75 (by decide) ?_
      refine z_goto 80 d_Tb_tellOfGroup_76 (by decide) ?_
      exact z_iret rfl (⟨by unfold qGr; rw [if_neg (by decide), if_neg (by decide), if_pos rfl]; first | exact congrArg (fun b => some (Value.int (zb b))) ((zb_0 _).mp c_72).symm | exact congrArg (fun b => some (Value.int (zb b))) ((zb_n0 _).mp c_72).symm, rfl⟩) (by first | decide | omega) (by first | decide | omega) d_Tb_tellOfGroup_80
  by_cases e3 : w = 3
  · subst e3
    refine z_tableIn 81 d_Tb_tellOfGroup_1 (by decide) (by decide) rfl (by decide) ?_
    refine z_aload_n 0 d_Tb_tellOfGroup_81 rfl rfl ?_
    refine z_get zc_Tb 4 (by decide) qF_Tb_36 hG_Tb rfl d_Tb_tellOfGroup_82 ?_
    refine z_callV0 (m_Gr_isGood hs0 hst hT.gA) ym_Gr_isGood qM_Tb_191 qI_Gr_isGood qV_Gr_Gr_isGood zc_Gr hT.gr d_Tb_tellOfGroup_85 rfl (Nat.le_of_ble_eq_true rfl) ⟨Nat.zero_le _, Nat.zero_le _⟩ ⟨Nat.le_of_ble_eq_true rfl, Nat.le_of_ble_eq_true rfl⟩ ?_
    refine z_if_eq 102 d_Tb_tellOfGroup_88 (by decide) (fun c_88 => ?_) (fun c_88 => ?_)
    · skip
      refine z_iconst (v := (-1)) d_Tb_tellOfGroup_102 (by decide) ?_
      exact z_iret rfl (⟨by unfold qGr; rw [if_neg (by decide), if_neg (by decide), if_neg (by decide), if_pos rfl]; first | rw [if_pos ((zb_n0 _).mp c_88)] | rw [if_neg (Bool.eq_false_iff.mp ((zb_0 _).mp c_88))], rfl⟩) (by first | decide | omega) (by first | decide | omega) d_Tb_tellOfGroup_103
    · skip
      refine z_aload_n 0 d_Tb_tellOfGroup_91 rfl rfl ?_
      refine z_get zc_Tb 4 (by decide) qF_Tb_36 hG_Tb rfl d_Tb_tellOfGroup_92 ?_
      refine z_iconst (v := 0) d_Tb_tellOfGroup_95 (by decide) ?_
      refine z_callV0 (m_Gr_curveAt hs0 hst hT.gA _) ym_Gr_curveAt qM_Tb_197 qI_Gr_curveAt qV_Gr_Gr_curveAt zc_Gr hT.gr d_Tb_tellOfGroup_96 rfl (Nat.le_of_ble_eq_true rfl) ⟨Nat.zero_le _, Nat.zero_le _⟩ ⟨Nat.le_of_ble_eq_true rfl, Nat.le_of_ble_eq_true rfl⟩ ?_
      refine z_goto 103 d_Tb_tellOfGroup_99 (by decide) ?_
      exact z_iret rfl (⟨by unfold qGr; rw [if_neg (by decide), if_neg (by decide), if_neg (by decide), if_pos rfl]; first | rw [if_pos ((zb_n0 _).mp c_88)] | rw [if_neg (Bool.eq_false_iff.mp ((zb_0 _).mp c_88))], rfl⟩) (by first | decide | omega) (by first | decide | omega) d_Tb_tellOfGroup_103
  by_cases e4 : w = 4
  · subst e4
    refine z_tableIn 104 d_Tb_tellOfGroup_1 (by decide) (by decide) rfl (by decide) ?_
    refine z_aload_n 0 d_Tb_tellOfGroup_104 rfl rfl ?_
    refine z_get zc_Tb 4 (by decide) qF_Tb_36 hG_Tb rfl d_Tb_tellOfGroup_105 ?_
    refine z_callV0 (m_Gr_isGood hs0 hst hT.gA) ym_Gr_isGood qM_Tb_191 qI_Gr_isGood qV_Gr_Gr_isGood zc_Gr hT.gr d_Tb_tellOfGroup_108 rfl (Nat.le_of_ble_eq_true rfl) ⟨Nat.zero_le _, Nat.zero_le _⟩ ⟨Nat.le_of_ble_eq_true rfl, Nat.le_of_ble_eq_true rfl⟩ ?_
    refine z_if_eq 124 d_Tb_tellOfGroup_111 (by decide) (fun c_111 => ?_) (fun c_111 => ?_)
    · skip
      refine z_iconst (v := 0) d_Tb_tellOfGroup_124 (by decide) ?_
      exact z_iret rfl (⟨by unfold qGr; rw [if_neg (by decide), if_neg (by decide), if_neg (by decide), if_neg (by decide), if_pos rfl]; first | rw [if_pos ((zb_n0 _).mp c_111)] | rw [if_neg (Bool.eq_false_iff.mp ((zb_0 _).mp c_111))], rfl⟩) (by first | decide | omega) (by first | decide | omega) d_Tb_tellOfGroup_125
    · skip
      refine z_aload_n 0 d_Tb_tellOfGroup_114 rfl rfl ?_
      refine z_get zc_Tb 4 (by decide) qF_Tb_36 hG_Tb rfl d_Tb_tellOfGroup_115 ?_
      refine z_callV0 (m_Gr_liars hs0 hst hT.gA) ym_Gr_liars qM_Tb_224 qI_Gr_liars qV_Gr_Gr_liars zc_Gr hT.gr d_Tb_tellOfGroup_118 rfl (Nat.le_of_ble_eq_true rfl) ⟨Nat.zero_le _, Nat.zero_le _⟩ ⟨Nat.le_of_ble_eq_true rfl, Nat.le_of_ble_eq_true rfl⟩ ?_
      refine z_goto 125 d_Tb_tellOfGroup_121 (by decide) ?_
      exact z_iret rfl (⟨by unfold qGr; rw [if_neg (by decide), if_neg (by decide), if_neg (by decide), if_neg (by decide), if_pos rfl]; first | rw [if_pos ((zb_n0 _).mp c_111)] | rw [if_neg (Bool.eq_false_iff.mp ((zb_0 _).mp c_111))], rfl⟩) (by first | decide | omega) (by first | decide | omega) d_Tb_tellOfGroup_125
  have ed : w.toInt < 0 ∨ 4 < w.toInt := by
    simp only [← Int32.toInt_inj, Int32.reduceToInt] at e0 e1 e2 e3 e4
    omega
  · skip
    refine z_tableOut 126 d_Tb_tellOfGroup_1 (ed) (by decide) ?_
    refine z_aload_n 0 d_Tb_tellOfGroup_126 rfl rfl ?_
    refine z_get zc_Tb 4 (by decide) qF_Tb_36 hG_Tb rfl d_Tb_tellOfGroup_127 ?_
    refine z_callV0 (m_Gr_agreed hs0 hst hT.gA) ym_Gr_agreed qM_Tb_413 qI_Gr_agreed qV_Gr_Gr_agreed zc_Gr hT.gr d_Tb_tellOfGroup_130 rfl (Nat.le_of_ble_eq_true rfl) ⟨Nat.zero_le _, Nat.zero_le _⟩ ⟨Nat.le_of_ble_eq_true rfl, Nat.le_of_ble_eq_true rfl⟩ ?_
    exact z_iret rfl (⟨by unfold qGr; rw [if_neg (fun e => by subst e; revert ed; decide), if_neg (fun e => by subst e; revert ed; decide), if_neg (fun e => by subst e; revert ed; decide), if_neg (fun e => by subst e; revert ed; decide), if_neg (fun e => by subst e; revert ed; decide)], rfl⟩) (by first | decide | omega) (by first | decide | omega) d_Tb_tellOfGroup_133
set_option maxHeartbeats 4000000 in
set_option maxRecDepth 100000 in
theorem m_Tb_wouldE {g0 : State} {d : zD} {l : Launch} {a0 : Array Value} (hs0 : zS0 d a0 g0) (hst : l.stackTraces = false) {G : zG} {A : Nat → Nat} {D : Nat → UInt64} {V : Nat → Nat → Int32} {nk ns : Nat} (hT : zT d A D V nk ns G) (x set w : Int32) : zMet g0 d l y_Tb_would c_Tb_would 5 ((Option.some Jvm.ClassFile.FieldType.int)) 14 3 18 [.ref (A 0), .int x, .int set, .int w] (G) (zTu d A nk ns V G (fun r => ∃ v, r = some (.int v) ∧ tWd V nk ns x set w v)) (zXo d A nk ns V G (fun E => (zoo ns x ∧ E = "java/lang/IndexOutOfBoundsException") ∨ (∃ si, si < ns ∧ x = nI si ∧ (zsetok nk set = false ∨ zin w 0 5 = false) ∧ E = "java/lang/IllegalArgumentException"))) := by
  have hG_Tb := hT.tb
  have hnk : nk ≤ 8 := hT.2.1
  have hns : ns ≤ 6 := hT.2.2.1
  refine z_entry hs0 hst (by decide) (Nat.le_of_ble_eq_true rfl) (fun p e s m args below meth c => ?_)
  refine z_aload_n 0 d_Tb_would_0 rfl rfl ?_
  refine z_iload_n 1 d_Tb_would_1 rfl rfl ?_
  refine z_callV (m_Tb_secretAt hs0 hst hT x) ym_Tb_secretAt qM_Tb_140 qI_Tb_secretAt qV_Tb_Tb_secretAt zc_Tb (by first | exact hT4.tb | exact hT3.tb | exact hT.tb) d_Tb_would_2 rfl (Nat.le_of_ble_eq_true rfl) ⟨by decide, by decide⟩ ⟨Nat.le_of_ble_eq_true rfl, Nat.le_of_ble_eq_true rfl⟩ ?_ ?_
  · exact fun E G9 hx => by
      obtain ⟨hx1, rfl, hx3⟩ := hx
      obtain rfl : G = G9 := hx3.symm
      exact z_out ⟨Or.inl ⟨hx1, rfl⟩, D, V, hT, zKo.rf, zFr.rf⟩ (by decide) (by decide)
  intro r_2 G_2 hp_2
  obtain ⟨si, hsi, rfl, rfl, hg_2⟩ := hp_2
  obtain rfl : G = G_2 := hg_2.symm
  refine z_astore (L' := [(4, _), (0, _), (1, _), (2, _), (3, _)]) d_Tb_would_5 (by decide) rfl ?_
  refine z_aload_n 1 d_Tb_would_7 rfl rfl ?_
  refine z_iload_n 3 d_Tb_would_8 rfl rfl ?_
  refine z_callV (m_Tb_needSet hs0 hst hT set) ym_Tb_needSet qM_Tb_101 qI_Tb_needSet qV_Tb_Tb_needSet zc_Tb (by first | exact hT4.tb | exact hT3.tb | exact hT.tb) d_Tb_would_9 rfl (Nat.le_of_ble_eq_true rfl) ⟨by decide, by decide⟩ ⟨Nat.le_of_ble_eq_true rfl, Nat.le_of_ble_eq_true rfl⟩ ?_ ?_
  · exact fun E G9 hx => by
      obtain ⟨hx1, rfl, hx3⟩ := hx
      obtain rfl : G = G9 := hx3.symm
      exact z_out ⟨Or.inr ⟨si, hsi, rfl, Or.inl hx1, rfl⟩, D, V, hT, zKo.rf, zFr.rf⟩ (by decide) (by decide)
  intro r_9 G_9 hp_9
  obtain ⟨hs_9, hr_9, hg_9⟩ := hp_9
  obtain rfl : r_9 = none := hr_9
  obtain rfl : G = G_9 := hg_9.symm
  refine z_iload_n 4 d_Tb_would_12 rfl rfl ?_
  refine z_iconst (v := 0) d_Tb_would_13 (by decide) ?_
  refine z_iconst (v := 5) d_Tb_would_14 (by decide) ?_
  refine z_callS0 (m_Tb_isFrom hs0 hst w 0 _) ym_Tb_isFrom qM_Tb_57 qS_Tb_isFrom d_Tb_would_15 rfl (Nat.le_of_ble_eq_true rfl) ⟨by decide, by decide⟩ ⟨Nat.le_of_ble_eq_true rfl, Nat.le_of_ble_eq_true rfl⟩ ?_
  refine z_if_ne 32 d_Tb_would_18 (by decide) (fun c_18 => ?_) (fun c_18 => ?_)
  · skip
    refine z_aload_n 1 d_Tb_would_32 rfl rfl ?_
    refine z_aload 0 d_Tb_would_33 rfl ?_
    refine z_iload_n 3 d_Tb_would_35 rfl rfl ?_
    refine z_callVp0 ((m_Tb_gatherGroupE hs0 hst hT hsi set)) ym_Tb_gatherGroup qM_Tb_184 qI_Tb_gatherGroup qV_Tb_Tb_gatherGroup zc_Tb (by first | exact hT4.tb | exact hT3.tb | exact hT.tb) d_Tb_would_36 rfl (Nat.le_of_ble_eq_true rfl) ⟨by decide, by decide⟩ ⟨Nat.le_of_ble_eq_true rfl, Nat.le_of_ble_eq_true rfl⟩ (fun r_36 G_36 hp_36 => ?_)
    obtain ⟨hr_36, V3, hT3, hK3, hF3⟩ := hp_36
    obtain rfl : r_36 = none := hr_36
    obtain ⟨q9, hq9, eq9⟩ := hT3.2.2.2.1
    have hg9 := hT3.gA
    rw [eq9] at hg9
    refine z_aload_n 1 d_Tb_would_39 rfl rfl ?_
    refine z_get zc_Tb 4 (by decide) qF_Tb_36 (by first | exact hT4.tb | exact hT3.tb | exact hT.tb) rfl d_Tb_would_40 ?_
    refine z_callVp0 (m_Gr_decode hs0 hst hg9 hq9) ym_Gr_decode qM_Tb_188 qI_Gr_decode qV_Gr_Gr_decode zc_Gr hT3.gr d_Tb_would_43 rfl (Nat.le_of_ble_eq_true rfl) ⟨by decide, by decide⟩ ⟨Nat.le_of_ble_eq_true rfl, Nat.le_of_ble_eq_true rfl⟩ (fun r_43 G_43 hp_43 => ?_)
    obtain ⟨hr_43, hg_43⟩ := hp_43
    obtain rfl : r_43 = none := hr_43
    obtain ⟨hT4, hF4⟩ := hT3.putgE (V3 12 0) (zdec (V3 13) (V3 14) (V3 12 0) (nI q9) (V3 12 2) (V3 12 3) q9).1 (zdec (V3 13) (V3 14) (V3 12 0) (nI q9) (V3 12 2) (V3 12 3) q9).2 (p := nI q9) ⟨q9, hq9, rfl⟩
    rw [← hg_43] at hT4 hF4
    have hD4 : zDd V _ nk si set := ⟨V3, q9, hq9, hK3, eq9, rfl⟩
    generalize hV4 : rset V3 12 (z4 (V3 12 0) (nI q9) (zdec (V3 13) (V3 14) (V3 12 0) (nI q9) (V3 12 2) (V3 12 3) q9).1 (zdec (V3 13) (V3 14) (V3 12 0) (nI q9) (V3 12 2) (V3 12 3) q9).2) = V4 at hT4 hD4
    refine z_aload_n 1 d_Tb_would_46 rfl rfl ?_
    refine z_aload 0 d_Tb_would_47 rfl ?_
    refine z_iload_n 4 d_Tb_would_49 rfl rfl ?_
    refine z_callV0 ((m_Tb_tellOfGroupE hs0 hst hT4 hsi w)) ym_Tb_tellOfGroup qM_Tb_283 qI_Tb_tellOfGroup qV_Tb_Tb_tellOfGroup zc_Tb (by first | exact hT4.tb | exact hT3.tb | exact hT.tb) d_Tb_would_50 rfl (Nat.le_of_ble_eq_true rfl) ⟨by decide, by decide⟩ ⟨Nat.le_of_ble_eq_true rfl, Nat.le_of_ble_eq_true rfl⟩ ?_
    exact z_iret rfl (⟨⟨_, rfl, si, hsi, rfl, hs_9, (zb_n0 _).mp c_18, V4, hD4, rfl⟩, D, V4, hT4, hD4.k, hF3.tr hF4⟩) (by first | decide | omega) (by first | decide | omega) d_Tb_would_53
  · skip
    exact z_thSW (names := ["java/lang/RuntimeException", "java/lang/Exception"]) (by decide) (by decide) qK_Tb_61 qN_IAE qR_Tb_281 th_65.1 th_65.2 d_Tb_would_21 d_Tb_would_24 d_Tb_would_25 d_Tb_would_28 d_Tb_would_31 (by decide) (Nat.le_of_ble_eq_true rfl) ⟨by decide, by decide⟩ (⟨Or.inr ⟨si, hsi, rfl, Or.inr ((zb_0 _).mp c_18), rfl⟩, D, V, hT, zKo.rf, zFr.rf⟩) (by decide) (by decide)
