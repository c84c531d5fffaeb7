
def qWd (V : Nat → Nat → Int32) (nk si g t : Nat) (w : Int32) : Int32 := if w = 0 then nI (zpop 9 (mgr V si g)) else if w = 1 then zb (mlw V nk si (nI (mgr V si g))) else if nI t ≤ nI (zpop 9 (mgr V si g)) then (if w = 5 then nI (zpop 9 (rag (V 7) (mgv V si) (mgr V si g) (rmb (V 7) (mgv V si) t (mgr V si g) (mgr V si g)).1)) else if nI (zpop 9 (zsetN (fun k => (mgr V si g).testBit k && !(rag (V 7) (mgv V si) (mgr V si g) (rmb (V 7) (mgv V si) t (mgr V si g) (mgr V si g)).1).testBit k) 9)) ≤ (nI (zpop 9 (mgr V si g)) - nI t) / 2 then (if w = 2 then 1 else if w = 3 then zth (V 7) (gvs (mgv V si)) (nI (2 * (rmb (V 7) (mgv V si) t (mgr V si g) (mgr V si g)).1)) (nI 0) else nI (mgr V si g) &&& (nI (rag (V 7) (mgv V si) (mgr V si g) (rmb (V 7) (mgv V si) t (mgr V si g) (mgr V si g)).1) ^^^ (-1))) else (if w = 3 then -1 else 0)) else (if w = 3 then -1 else 0)
theorem mlw_k {V V2 : Nat → Nat → Int32} (h : zKp msc V V2) (nk si : Nat) (s : Int32) : mlw V2 nk si s = mlw V nk si s := by
  unfold mlw
  rw [show (fun k => V2 (100 + k) 0) = (fun k => V (100 + k) 0) from funext fun k => by rw [h.r (r := 100 + k) (by omega) (by omega)], h.r (r := 200 + si) (by omega) (by omega), h.r (r := 0) (by decide) (by decide)]
theorem mgr_k {V V2 : Nat → Nat → Int32} (h : zKp msc V V2) (si g : Nat) : mgr V2 si g = mgr V si g := by
  unfold mgr
  rw [h.r (r := 300 + si) (by omega) (by omega), h.r (r := 400 + si) (by omega) (by omega), h.r (r := 200 + si) (by omega) (by omega)]
theorem qWd_k {V V2 : Nat → Nat → Int32} (h : zKp msc V V2) {nk si g t : Nat} {w : Int32} : qWd V2 nk si g t w = qWd V nk si g t w := by
  unfold qWd
  rw [mgr_k h, mlw_k h, h.mg, h.r (r := 7) (by decide) (by decide)]
def rWd (nk ns : Nat) (x set w t b : Int32) (W : Nat → Nat → Int32) : Prop := (zin x 0 (nI ns - 1) = false ∧ t = 1) ∨ (∃ s, s < ns ∧ x = nI s ∧ (((zsetok nk set = false ∨ zin w 0 5 = false) ∧ t = 2) ∨ (∃ g, g < 2 ^ nk ∧ set = nI g ∧ zin w 0 5 = true ∧ t = 0 ∧ ∃ t9, 1 ≤ t9 ∧ t9 ≤ 4 ∧ W (200 + s) 0 = nI t9 ∧ b = qWd W nk s g t9 w)))

set_option maxHeartbeats 4000000 in
set_option maxRecDepth 100000 in
theorem m_Mo_wouldNowE {g0 : State} {d : zD} {l : Launch} {a0 : Array Value} (hs0 : zS0 d a0 g0) (hst : l.stackTraces = false) {G : zG} {B : Nat → Nat} {V : Nat → Nat → Int32} {nk ns ne ec : Nat} (hM : zM d B V nk ns ne ec G) {si : Nat} (hsi : si < ns) {g : Nat} (hg : g < 2 ^ nk) (w : Int32) {iv : Nat → Nat} (hok : mOk V nk ns iv) : zMet g0 d l y_Mo_wouldNow c_Mo_wouldNow 9 ((Option.some Jvm.ClassFile.FieldType.int)) 15 0 0 [.ref (B 0), .int (nI si), .int (nI g), .int w] (G) (mTs d B nk ns ne ec V G (fun r => ∃ t, 1 ≤ t ∧ t ≤ 4 ∧ V (200 + si) 0 = nI t ∧ r = some (.int (qWd V nk si g t w)))) (zNo) := by
  have hnk : nk ≤ 8 := hM.2.1
  have hns : ns ≤ 6 := hM.2.2.1
  have hne : ne ≤ 64 := hM.2.2.2.1
  have hp2 : 2 ^ nk ≤ 256 := Nat.pow_le_pow_right (n := 2) (by decide) hnk
  have hsm := mgr_sm (s := g) hok hsi
  have hgq : mgr V si g < 2 ^ nk := Nat.lt_of_le_of_lt (mgr_le (by omega)) hg
  obtain ⟨t, ht1, ht4, ht⟩ := hM.tn hsi
  have hl9 := mgr_lt (V := V) (si := si) (s := g)
  have hra9 := rag_lt (inv := V 7) (h := mgv V si) (g := mgr V si g) (q := (rmb (V 7) (mgv V si) t (mgr V si g) (mgr V si g)).1)
  have hb1 : (rmb (V 7) (mgv V si) t (mgr V si g) (mgr V si g)).1 < 2 ^ nk := by have := (rmb_in (inv := V 7) (h := mgv V si) (t := t) (g := mgr V si g) (mgr V si g)).1; omega
  have hsb : zSm (mgv V si) (rmb (V 7) (mgv V si) t (mgr V si g) (mgr V si g)).1 := hsm.sub (fun k hk h1 => rmb_sub hl9 hl9 hk h1)
  have han9 := (zset_N (fun k => (mgr V si g).testBit k && !(rag (V 7) (mgv V si) (mgr V si g) (rmb (V 7) (mgv V si) t (mgr V si g) (mgr V si g)).1).testBit k) 9 (by decide)).2
  refine z_entry hs0 hst (by decide) (Nat.le_of_ble_eq_true rfl) (fun p e s m args below meth c => ?_)
  refine z_aload_n 0 d_Mo_wouldNow_0 rfl rfl ?_
  refine z_get zc_Mo 7 (by decide) qF_Mo_20 hM.mo rfl d_Mo_wouldNow_1 ?_
  refine z_iload_n 1 d_Mo_wouldNow_4 rfl rfl ?_
  refine z_callF0 (m_AL_get hs0 hst (hM.sA hsi) hsi (if_pos hsi)) ym_AL_get zF_AL_get qM_Mo_51 zc_AL (hM.sA hsi).1 d_Mo_wouldNow_5 rfl (Nat.le_of_ble_eq_true rfl) ⟨Nat.zero_le _, Nat.zero_le _⟩ ⟨Nat.le_of_ble_eq_true rfl, Nat.le_of_ble_eq_true rfl⟩ ?_
  refine z_castS zc_MS qK_Mo_47 (hM.se hsi).1 d_Mo_wouldNow_10 ?_
  refine z_astore (L' := [(4, _), (0, _), (1, _), (2, _), (3, _)]) d_Mo_wouldNow_13 (by decide) rfl ?_
  refine z_aload_n 1 d_Mo_wouldNow_15 rfl rfl ?_
  refine z_aload 0 d_Mo_wouldNow_16 rfl ?_
  refine z_iload_n 3 d_Mo_wouldNow_18 rfl rfl ?_
  refine z_callV0 ((m_Mo_groupE hs0 hst hM hsi (g := g) (by omega))) ym_Mo_group qM_Mo_150 qI_Mo_group qV_Mo_Mo_group zc_Mo hM.mo d_Mo_wouldNow_19 rfl (Nat.le_of_ble_eq_true rfl) ⟨Nat.zero_le _, Nat.zero_le _⟩ ⟨Nat.le_of_ble_eq_true rfl, Nat.le_of_ble_eq_true rfl⟩ ?_
  refine z_istore (L' := [(5, _), (4, _), (0, _), (1, _), (2, _), (3, _)]) d_Mo_wouldNow_22 (by decide) rfl ?_
  refine z_iload_n 5 d_Mo_wouldNow_24 rfl rfl ?_
  refine z_if_ne 34 d_Mo_wouldNow_25 (by decide) (fun c_25 => ?_) (fun c_25 => ?_)
  · skip
    refine z_iload_n 5 d_Mo_wouldNow_34 rfl rfl ?_
    refine z_iconst (v := 1) d_Mo_wouldNow_35 (by decide) ?_
    refine z_icmp_ne 56 d_Mo_wouldNow_36 (by decide) (fun c_36 => ?_) (fun c_36 => ?_)
    · skip
      refine z_iload 0 d_Mo_wouldNow_56 rfl ?_
      refine z_callS0 ((m_Mo_size hs0 hst (nn := mgr V si g) (by omega))) ym_Mo_size qM_Mo_66 qS_Mo_size d_Mo_wouldNow_58 rfl (Nat.le_of_ble_eq_true rfl) ⟨Nat.zero_le _, Nat.zero_le _⟩ ⟨Nat.le_of_ble_eq_true rfl, Nat.le_of_ble_eq_true rfl⟩ ?_
      refine z_aload 1 d_Mo_wouldNow_61 rfl ?_
      refine z_get zc_MS 0 (by decide) qF_Mo_69 (hM.se hsi).1 rfl d_Mo_wouldNow_63 ?_
      refine z_topv ht ?_
      refine z_icmp_ge 80 d_Mo_wouldNow_66 (by decide) (fun c_66 => ?_) (fun c_66 => ?_)
      · skip
        refine z_aload_n 2 d_Mo_wouldNow_80 rfl rfl ?_
        refine z_aload 1 d_Mo_wouldNow_81 rfl ?_
        refine z_iload 0 d_Mo_wouldNow_83 rfl ?_
        refine z_callVp0 ((m_Mo_bestE hs0 hst hM hsi hgq hsm hok.1 ht ht4)) ym_Mo_best qM_Mo_91 qI_Mo_best qV_Mo_Mo_best zc_Mo hM.mo d_Mo_wouldNow_85 rfl (Nat.le_of_ble_eq_true rfl) ⟨Nat.zero_le _, Nat.zero_le _⟩ ⟨Nat.le_of_ble_eq_true rfl, Nat.le_of_ble_eq_true rfl⟩ (fun r_85 G_85 hp_85 => ?_)
        obtain ⟨hr_85, V1, hM1, hK1, hF1⟩ := hp_85
        obtain rfl : r_85 = _ := hr_85
        refine z_istore (L' := [(6, _), (5, _), (4, _), (0, _), (1, _), (2, _), (3, _)]) d_Mo_wouldNow_88 (by decide) rfl ?_
        refine z_aload_n 3 d_Mo_wouldNow_90 rfl rfl ?_
        refine z_aload 2 d_Mo_wouldNow_91 rfl ?_
        refine z_iload 1 d_Mo_wouldNow_93 rfl ?_
        refine z_iload 0 d_Mo_wouldNow_95 rfl ?_
        refine z_callVp0 ((m_Mo_agreeingE hs0 hst hM1 hsi hgq hb1 (by rw [hK1.mg]; exact hsb) (by rw [hK1.r (r := 7) (by decide) (by decide)]; exact hok.1))) ym_Mo_agreeing qM_Mo_72 qI_Mo_agreeing qV_Mo_Mo_agreeing zc_Mo hM1.mo d_Mo_wouldNow_97 rfl (Nat.le_of_ble_eq_true rfl) ⟨Nat.zero_le _, Nat.zero_le _⟩ ⟨Nat.le_of_ble_eq_true rfl, Nat.le_of_ble_eq_true rfl⟩ (fun r_97 G_97 hp_97 => ?_)
        obtain ⟨hr_97, V2, hM2, hK2, hF2⟩ := hp_97
        rw [hK1.mg, hK1.r (r := 7) (by decide) (by decide)] at hr_97
        obtain rfl : r_97 = _ := hr_97
        replace hK2 := hK1.tr hK2
        replace hF2 := hF1.tr hF2
        refine z_istore (L' := [(7, _), (6, _), (5, _), (4, _), (0, _), (1, _), (2, _), (3, _)]) d_Mo_wouldNow_100 (by decide) rfl ?_
        refine z_iload 2 d_Mo_wouldNow_102 rfl ?_
        refine z_iload 0 d_Mo_wouldNow_104 rfl ?_
        refine z_iconst (v := (-1)) d_Mo_wouldNow_106 (by decide) ?_
        refine z_ixor d_Mo_wouldNow_107 ?_
        refine z_iand d_Mo_wouldNow_108 ?_
        refine z_topv (nI_andn (by omega) (by omega)) ?_
        refine z_callS0 ((m_Mo_size hs0 hst (nn := zsetN (fun k => (mgr V si g).testBit k && !(rag (V 7) (mgv V si) (mgr V si g) (rmb (V 7) (mgv V si) t (mgr V si g) (mgr V si g)).1).testBit k) 9) (by omega))) ym_Mo_size qM_Mo_66 qS_Mo_size d_Mo_wouldNow_109 rfl (Nat.le_of_ble_eq_true rfl) ⟨Nat.zero_le _, Nat.zero_le _⟩ ⟨Nat.le_of_ble_eq_true rfl, Nat.le_of_ble_eq_true rfl⟩ ?_
        refine z_iload 2 d_Mo_wouldNow_112 rfl ?_
        refine z_callS0 ((m_Mo_size hs0 hst (nn := mgr V si g) (by omega))) ym_Mo_size qM_Mo_66 qS_Mo_size d_Mo_wouldNow_114 rfl (Nat.le_of_ble_eq_true rfl) ⟨Nat.zero_le _, Nat.zero_le _⟩ ⟨Nat.le_of_ble_eq_true rfl, Nat.le_of_ble_eq_true rfl⟩ ?_
        refine z_aload 3 d_Mo_wouldNow_117 rfl ?_
        refine z_get zc_MS 0 (by decide) qF_Mo_69 (hM2.se hsi).1 rfl d_Mo_wouldNow_119 ?_
        refine z_topv (v := nI t) (by rw [hK2.r (r := 200 + si) (by omega) (by omega), ht]) ?_
        refine z_isub d_Mo_wouldNow_122 ?_
        refine z_iconst (v := 2) d_Mo_wouldNow_123 (by decide) ?_
        refine z_idiv d_Mo_wouldNow_124 (by decide) ?_
        refine z_icmp_gt 132 d_Mo_wouldNow_125 (by decide) (fun c_125 => ?_) (fun c_125 => ?_)
        · skip
          refine z_iconst (v := 0) d_Mo_wouldNow_132 (by decide) ?_
          refine z_istore (L' := [(8, _), (7, _), (6, _), (5, _), (4, _), (0, _), (1, _), (2, _), (3, _)]) d_Mo_wouldNow_133 (by decide) rfl ?_
          refine z_iload_n 8 d_Mo_wouldNow_135 rfl rfl ?_
          refine z_iconst (v := 5) d_Mo_wouldNow_136 (by decide) ?_
          refine z_icmp_ne 146 d_Mo_wouldNow_137 (by decide) (fun c_137 => ?_) (fun c_137 => ?_)
          · skip
            refine z_iload 0 d_Mo_wouldNow_146 rfl ?_
            refine z_if_ne 162 d_Mo_wouldNow_148 (by decide) (fun c_148 => ?_) (fun c_148 => ?_)
            · skip
              refine z_iload_n 8 d_Mo_wouldNow_162 rfl rfl ?_
              refine z_iconst (v := 2) d_Mo_wouldNow_163 (by decide) ?_
              refine z_icmp_ne 171 d_Mo_wouldNow_164 (by decide) (fun c_164 => ?_) (fun c_164 => ?_)
              · skip
                refine z_iload_n 8 d_Mo_wouldNow_171 rfl rfl ?_
                refine z_iconst (v := 3) d_Mo_wouldNow_172 (by decide) ?_
                refine z_icmp_ne 188 d_Mo_wouldNow_173 (by decide) (fun c_173 => ?_) (fun c_173 => ?_)
                · skip
                  refine z_iload 3 d_Mo_wouldNow_188 rfl ?_
                  refine z_iload 1 d_Mo_wouldNow_190 rfl ?_
                  refine z_iconst (v := (-1)) d_Mo_wouldNow_192 (by decide) ?_
                  refine z_ixor d_Mo_wouldNow_193 ?_
                  refine z_iand d_Mo_wouldNow_194 ?_
                  exact z_iret rfl (by first | (exfalso; revert c_148; decide) | (have hq9 := hM3; exact ⟨⟨t, ht1, ht4, ht, by unfold qWd; rw [if_neg c_25, if_neg c_36, if_pos c_66, if_neg c_137, if_pos (Int32.not_lt.mp c_125), if_neg c_164, if_pos c_173]⟩, V3, hM3, hK2.tr hK3, hF2.tr hF3⟩) | exact ⟨⟨t, ht1, ht4, ht, by unfold qWd; first | rw [if_neg c_25, if_neg c_36, if_pos c_66, if_neg c_137, if_pos (Int32.not_lt.mp c_125), if_pos c_164] | rw [if_neg c_25, if_neg c_36, if_pos c_66, if_neg c_137, if_pos (Int32.not_lt.mp c_125), if_neg c_164, if_neg c_173]⟩, V2, hM2, hK2, hF2⟩) (by first | decide | omega) (by first | decide | omega) d_Mo_wouldNow_195
                · skip
                  refine z_aload_n 5 d_Mo_wouldNow_176 rfl rfl ?_
                  refine z_aload 4 d_Mo_wouldNow_177 rfl ?_
                  refine z_iload 2 d_Mo_wouldNow_179 rfl ?_
                  refine z_iconst (v := (nI 0)) d_Mo_wouldNow_181 (by decide) ?_
                  refine z_callVp0 ((m_Mo_alongE hs0 hst hM2 hsi hb1 (x := 0) (by decide) (by rw [hK2.mg]; exact hsb) (by rw [hK2.r (r := 7) (by decide) (by decide)]; exact hok.1))) ym_Mo_along qM_Mo_88 qI_Mo_along qV_Mo_Mo_along zc_Mo hM2.mo d_Mo_wouldNow_182 rfl (Nat.le_of_ble_eq_true rfl) ⟨Nat.zero_le _, Nat.zero_le _⟩ ⟨Nat.le_of_ble_eq_true rfl, Nat.le_of_ble_eq_true rfl⟩ (fun r_182 G_182 hp_182 => ?_)
                  obtain ⟨hr_182, V3, hM3, hK3, hF3⟩ := hp_182
                  rw [hK2.mg, hK2.r (r := 7) (by decide) (by decide)] at hr_182
                  obtain rfl : r_182 = _ := hr_182
                  refine z_goto 195 d_Mo_wouldNow_185 (by decide) ?_
                  exact z_iret rfl (by first | (exfalso; revert c_148; decide) | (have hq9 := hM3; exact ⟨⟨t, ht1, ht4, ht, by unfold qWd; rw [if_neg c_25, if_neg c_36, if_pos c_66, if_neg c_137, if_pos (Int32.not_lt.mp c_125), if_neg c_164, if_pos c_173]⟩, V3, hM3, hK2.tr hK3, hF2.tr hF3⟩) | exact ⟨⟨t, ht1, ht4, ht, by unfold qWd; first | rw [if_neg c_25, if_neg c_36, if_pos c_66, if_neg c_137, if_pos (Int32.not_lt.mp c_125), if_pos c_164] | rw [if_neg c_25, if_neg c_36, if_pos c_66, if_neg c_137, if_pos (Int32.not_lt.mp c_125), if_neg c_164, if_neg c_173]⟩, V2, hM2, hK2, hF2⟩) (by first | decide | omega) (by first | decide | omega) d_Mo_wouldNow_195
              · skip
                refine z_iconst (v := 1) d_Mo_wouldNow_167 (by decide) ?_
                refine z_goto 195 d_Mo_wouldNow_168 (by decide) ?_
                exact z_iret rfl (by first | (exfalso; revert c_148; decide) | (have hq9 := hM3; exact ⟨⟨t, ht1, ht4, ht, by unfold qWd; rw [if_neg c_25, if_neg c_36, if_pos c_66, if_neg c_137, if_pos (Int32.not_lt.mp c_125), if_neg c_164, if_pos c_173]⟩, V3, hM3, hK2.tr hK3, hF2.tr hF3⟩) | exact ⟨⟨t, ht1, ht4, ht, by unfold qWd; first | rw [if_neg c_25, if_neg c_36, if_pos c_66, if_neg c_137, if_pos (Int32.not_lt.mp c_125), if_pos c_164] | rw [if_neg c_25, if_neg c_36, if_pos c_66, if_neg c_137, if_pos (Int32.not_lt.mp c_125), if_neg c_164, if_neg c_173]⟩, V2, hM2, hK2, hF2⟩) (by first | decide | omega) (by first | decide | omega) d_Mo_wouldNow_195
            · skip
              refine z_iload_n 8 d_Mo_wouldNow_151 rfl rfl ?_
              refine z_iconst (v := 3) d_Mo_wouldNow_152 (by decide) ?_
              refine z_icmp_ne 160 d_Mo_wouldNow_153 (by decide) (fun c_153 => ?_) (fun c_153 => ?_)
              · skip
                refine z_iconst (v := 0) d_Mo_wouldNow_160 (by decide) ?_
                exact z_iret rfl (by first | (exfalso; revert c_148; decide) | exact ⟨⟨t, ht1, ht4, ht, by unfold qWd; first | rw [if_neg c_25, if_neg c_36, if_pos c_66, if_neg c_137, if_neg (Int32.not_le.mpr c_125), if_pos c_153] | rw [if_neg c_25, if_neg c_36, if_pos c_66, if_neg c_137, if_neg (Int32.not_le.mpr c_125), if_neg c_153]⟩, V2, hM2, hK2, hF2⟩) (by first | decide | omega) (by first | decide | omega) d_Mo_wouldNow_161
              · skip
                refine z_iconst (v := (-1)) d_Mo_wouldNow_156 (by decide) ?_
                refine z_goto 161 d_Mo_wouldNow_157 (by decide) ?_
                exact z_iret rfl (by first | (exfalso; revert c_148; decide) | exact ⟨⟨t, ht1, ht4, ht, by unfold qWd; first | rw [if_neg c_25, if_neg c_36, if_pos c_66, if_neg c_137, if_neg (Int32.not_le.mpr c_125), if_pos c_153] | rw [if_neg c_25, if_neg c_36, if_pos c_66, if_neg c_137, if_neg (Int32.not_le.mpr c_125), if_neg c_153]⟩, V2, hM2, hK2, hF2⟩) (by first | decide | omega) (by first | decide | omega) d_Mo_wouldNow_161
          · skip
            refine z_iload 1 d_Mo_wouldNow_140 rfl ?_
            refine z_callS0 ((m_Mo_size hs0 hst (nn := rag (V 7) (mgv V si) (mgr V si g) (rmb (V 7) (mgv V si) t (mgr V si g) (mgr V si g)).1) (by omega))) ym_Mo_size qM_Mo_66 qS_Mo_size d_Mo_wouldNow_142 rfl (Nat.le_of_ble_eq_true rfl) ⟨Nat.zero_le _, Nat.zero_le _⟩ ⟨Nat.le_of_ble_eq_true rfl, Nat.le_of_ble_eq_true rfl⟩ ?_
            exact z_iret rfl (⟨⟨t, ht1, ht4, ht, by unfold qWd; rw [if_neg c_25, if_neg c_36, if_pos c_66, if_pos c_137]⟩, V2, hM2, hK2, hF2⟩) (by first | decide | omega) (by first | decide | omega) d_Mo_wouldNow_145
        · skip
          refine z_iconst (v := 1) d_Mo_wouldNow_128 (by decide) ?_
          refine z_goto 133 d_Mo_wouldNow_129 (by decide) ?_
          refine z_istore (L' := [(8, _), (7, _), (6, _), (5, _), (4, _), (0, _), (1, _), (2, _), (3, _)]) d_Mo_wouldNow_133 (by decide) rfl ?_
          refine z_iload_n 8 d_Mo_wouldNow_135 rfl rfl ?_
          refine z_iconst (v := 5) d_Mo_wouldNow_136 (by decide) ?_
          refine z_icmp_ne 146 d_Mo_wouldNow_137 (by decide) (fun c_137 => ?_) (fun c_137 => ?_)
          · skip
            refine z_iload 0 d_Mo_wouldNow_146 rfl ?_
            refine z_if_ne 162 d_Mo_wouldNow_148 (by decide) (fun c_148 => ?_) (fun c_148 => ?_)
            · skip
              refine z_iload_n 8 d_Mo_wouldNow_162 rfl rfl ?_
              refine z_iconst (v := 2) d_Mo_wouldNow_163 (by decide) ?_
              refine z_icmp_ne 171 d_Mo_wouldNow_164 (by decide) (fun c_164 => ?_) (fun c_164 => ?_)
              · skip
                refine z_iload_n 8 d_Mo_wouldNow_171 rfl rfl ?_
                refine z_iconst (v := 3) d_Mo_wouldNow_172 (by decide) ?_
                refine z_icmp_ne 188 d_Mo_wouldNow_173 (by decide) (fun c_173 => ?_) (fun c_173 => ?_)
                · skip
                  refine z_iload 3 d_Mo_wouldNow_188 rfl ?_
                  refine z_iload 1 d_Mo_wouldNow_190 rfl ?_
                  refine z_iconst (v := (-1)) d_Mo_wouldNow_192 (by decide) ?_
                  refine z_ixor d_Mo_wouldNow_193 ?_
                  refine z_iand d_Mo_wouldNow_194 ?_
                  exact z_iret rfl (by first | (exfalso; revert c_148; decide) | (have hq9 := hM3; exact ⟨⟨t, ht1, ht4, ht, by unfold qWd; rw [if_neg c_25, if_neg c_36, if_pos c_66, if_neg c_137, if_pos (Int32.not_lt.mp c_125), if_neg c_164, if_pos c_173]⟩, V3, hM3, hK2.tr hK3, hF2.tr hF3⟩) | exact ⟨⟨t, ht1, ht4, ht, by unfold qWd; first | rw [if_neg c_25, if_neg c_36, if_pos c_66, if_neg c_137, if_pos (Int32.not_lt.mp c_125), if_pos c_164] | rw [if_neg c_25, if_neg c_36, if_pos c_66, if_neg c_137, if_pos (Int32.not_lt.mp c_125), if_neg c_164, if_neg c_173]⟩, V2, hM2, hK2, hF2⟩) (by first | decide | omega) (by first | decide | omega) d_Mo_wouldNow_195
                · skip
                  refine z_aload_n 5 d_Mo_wouldNow_176 rfl rfl ?_
                  refine z_aload 4 d_Mo_wouldNow_177 rfl ?_
                  refine z_iload 2 d_Mo_wouldNow_179 rfl ?_
                  refine z_iconst (v := (nI 0)) d_Mo_wouldNow_181 (by decide) ?_
                  refine z_callVp0 ((m_Mo_alongE hs0 hst hM2 hsi hb1 (x := 0) (by decide) (by rw [hK2.mg]; exact hsb) (by rw [hK2.r (r := 7) (by decide) (by decide)]; exact hok.1))) ym_Mo_along qM_Mo_88 qI_Mo_along qV_Mo_Mo_along zc_Mo hM2.mo d_Mo_wouldNow_182 rfl (Nat.le_of_ble_eq_true rfl) ⟨Nat.zero_le _, Nat.zero_le _⟩ ⟨Nat.le_of_ble_eq_true rfl, Nat.le_of_ble_eq_true rfl⟩ (fun r_182 G_182 hp_182 => ?_)
                  obtain ⟨hr_182, V3, hM3, hK3, hF3⟩ := hp_182
                  rw [hK2.mg, hK2.r (r := 7) (by decide) (by decide)] at hr_182
                  obtain rfl : r_182 = _ := hr_182
                  refine z_goto 195 d_Mo_wouldNow_185 (by decide) ?_
                  exact z_iret rfl (by first | (exfalso; revert c_148; decide) | (have hq9 := hM3; exact ⟨⟨t, ht1, ht4, ht, by unfold qWd; rw [if_neg c_25, if_neg c_36, if_pos c_66, if_neg c_137, if_pos (Int32.not_lt.mp c_125), if_neg c_164, if_pos c_173]⟩, V3, hM3, hK2.tr hK3, hF2.tr hF3⟩) | exact ⟨⟨t, ht1, ht4, ht, by unfold qWd; first | rw [if_neg c_25, if_neg c_36, if_pos c_66, if_neg c_137, if_pos (Int32.not_lt.mp c_125), if_pos c_164] | rw [if_neg c_25, if_neg c_36, if_pos c_66, if_neg c_137, if_pos (Int32.not_lt.mp c_125), if_neg c_164, if_neg c_173]⟩, V2, hM2, hK2, hF2⟩) (by first | decide | omega) (by first | decide | omega) d_Mo_wouldNow_195
              · skip
                refine z_iconst (v := 1) d_Mo_wouldNow_167 (by decide) ?_
                refine z_goto 195 d_Mo_wouldNow_168 (by decide) ?_
                exact z_iret rfl (by first | (exfalso; revert c_148; decide) | (have hq9 := hM3; exact ⟨⟨t, ht1, ht4, ht, by unfold qWd; rw [if_neg c_25, if_neg c_36, if_pos c_66, if_neg c_137, if_pos (Int32.not_lt.mp c_125), if_neg c_164, if_pos c_173]⟩, V3, hM3, hK2.tr hK3, hF2.tr hF3⟩) | exact ⟨⟨t, ht1, ht4, ht, by unfold qWd; first | rw [if_neg c_25, if_neg c_36, if_pos c_66, if_neg c_137, if_pos (Int32.not_lt.mp c_125), if_pos c_164] | rw [if_neg c_25, if_neg c_36, if_pos c_66, if_neg c_137, if_pos (Int32.not_lt.mp c_125), if_neg c_164, if_neg c_173]⟩, V2, hM2, hK2, hF2⟩) (by first | decide | omega) (by first | decide | omega) d_Mo_wouldNow_195
            · skip
              refine z_iload_n 8 d_Mo_wouldNow_151 rfl rfl ?_
              refine z_iconst (v := 3) d_Mo_wouldNow_152 (by decide) ?_
              refine z_icmp_ne 160 d_Mo_wouldNow_153 (by decide) (fun c_153 => ?_) (fun c_153 => ?_)
              · skip
                refine z_iconst (v := 0) d_Mo_wouldNow_160 (by decide) ?_
                exact z_iret rfl (by first | (exfalso; revert c_148; decide) | exact ⟨⟨t, ht1, ht4, ht, by unfold qWd; first | rw [if_neg c_25, if_neg c_36, if_pos c_66, if_neg c_137, if_neg (Int32.not_le.mpr c_125), if_pos c_153] | rw [if_neg c_25, if_neg c_36, if_pos c_66, if_neg c_137, if_neg (Int32.not_le.mpr c_125), if_neg c_153]⟩, V2, hM2, hK2, hF2⟩) (by first | decide | omega) (by first | decide | omega) d_Mo_wouldNow_161
              · skip
                refine z_iconst (v := (-1)) d_Mo_wouldNow_156 (by decide) ?_
                refine z_goto 161 d_Mo_wouldNow_157 (by decide) ?_
                exact z_iret rfl (by first | (exfalso; revert c_148; decide) | exact ⟨⟨t, ht1, ht4, ht, by unfold qWd; first | rw [if_neg c_25, if_neg c_36, if_pos c_66, if_neg c_137, if_neg (Int32.not_le.mpr c_125), if_pos c_153] | rw [if_neg c_25, if_neg c_36, if_pos c_66, if_neg c_137, if_neg (Int32.not_le.mpr c_125), if_neg c_153]⟩, V2, hM2, hK2, hF2⟩) (by first | decide | omega) (by first | decide | omega) d_Mo_wouldNow_161
          · skip
            refine z_iload 1 d_Mo_wouldNow_140 rfl ?_
            refine z_callS0 ((m_Mo_size hs0 hst (nn := rag (V 7) (mgv V si) (mgr V si g) (rmb (V 7) (mgv V si) t (mgr V si g) (mgr V si g)).1) (by omega))) ym_Mo_size qM_Mo_66 qS_Mo_size d_Mo_wouldNow_142 rfl (Nat.le_of_ble_eq_true rfl) ⟨Nat.zero_le _, Nat.zero_le _⟩ ⟨Nat.le_of_ble_eq_true rfl, Nat.le_of_ble_eq_true rfl⟩ ?_
            exact z_iret rfl (⟨⟨t, ht1, ht4, ht, by unfold qWd; rw [if_neg c_25, if_neg c_36, if_pos c_66, if_pos c_137]⟩, V2, hM2, hK2, hF2⟩) (by first | decide | omega) (by first | decide | omega) d_Mo_wouldNow_145
      · skip
        refine z_iload_n 5 d_Mo_wouldNow_69 rfl rfl ?_
        refine z_iconst (v := 3) d_Mo_wouldNow_70 (by decide) ?_
        refine z_icmp_ne 78 d_Mo_wouldNow_71 (by decide) (fun c_71 => ?_) (fun c_71 => ?_)
        · skip
          refine z_iconst (v := 0) d_Mo_wouldNow_78 (by decide) ?_
          exact z_iret rfl (⟨⟨t, ht1, ht4, ht, by unfold qWd; first | rw [if_neg c_25, if_neg c_36, if_neg c_66, if_pos c_71] | rw [if_neg c_25, if_neg c_36, if_neg c_66, if_neg c_71]⟩, V, hM, zKp.rf, zFr.rf⟩) (by first | decide | omega) (by first | decide | omega) d_Mo_wouldNow_79
        · skip
          refine z_iconst (v := (-1)) d_Mo_wouldNow_74 (by decide) ?_
          refine z_goto 79 d_Mo_wouldNow_75 (by decide) ?_
          exact z_iret rfl (⟨⟨t, ht1, ht4, ht, by unfold qWd; first | rw [if_neg c_25, if_neg c_36, if_neg c_66, if_pos c_71] | rw [if_neg c_25, if_neg c_36, if_neg c_66, if_neg c_71]⟩, V, hM, zKp.rf, zFr.rf⟩) (by first | decide | omega) (by first | decide | omega) d_Mo_wouldNow_79
    · skip
      refine z_aload_n 2 d_Mo_wouldNow_39 rfl rfl ?_
      refine z_aload 1 d_Mo_wouldNow_40 rfl ?_
      refine z_iload 0 d_Mo_wouldNow_42 rfl ?_
      refine z_callV0 ((m_Mo_isLawfulE hs0 hst hM hsi _ hok.2.2)) ym_Mo_isLawful qM_Mo_172 qI_Mo_isLawful qV_Mo_Mo_isLawful zc_Mo hM.mo d_Mo_wouldNow_44 rfl (Nat.le_of_ble_eq_true rfl) ⟨Nat.zero_le _, Nat.zero_le _⟩ ⟨Nat.le_of_ble_eq_true rfl, Nat.le_of_ble_eq_true rfl⟩ ?_
      refine z_if_eq 54 d_Mo_wouldNow_47 (by decide) (fun c_47 => ?_) (fun c_47 => ?_)
      · skip
        refine z_iconst (v := 0) d_Mo_wouldNow_54 (by decide) ?_
        exact z_iret rfl (⟨⟨t, ht1, ht4, ht, by unfold qWd; rw [if_neg c_25, if_pos c_36]; first | exact congrArg (fun b => some (Value.int (zb b))) ((zb_0 _).mp c_47).symm | exact congrArg (fun b => some (Value.int (zb b))) ((zb_n0 _).mp c_47).symm⟩, V, hM, zKp.rf, zFr.rf⟩) (by first | decide | omega) (by first | decide | omega) d_Mo_wouldNow_55
      · skip
        refine z_iconst (v := 1) d_Mo_wouldNow_50 (by decide) ?_
        refine z_goto 55 d_Mo_wouldNow_51 (by decide) ?_
        exact z_iret rfl (⟨⟨t, ht1, ht4, ht, by unfold qWd; rw [if_neg c_25, if_pos c_36]; first | exact congrArg (fun b => some (Value.int (zb b))) ((zb_0 _).mp c_47).symm | exact congrArg (fun b => some (Value.int (zb b))) ((zb_n0 _).mp c_47).symm⟩, V, hM, zKp.rf, zFr.rf⟩) (by first | decide | omega) (by first | decide | omega) d_Mo_wouldNow_55
  · skip
    refine z_iload 0 d_Mo_wouldNow_28 rfl ?_
    refine z_callS0 ((m_Mo_size hs0 hst (nn := mgr V si g) (by omega))) ym_Mo_size qM_Mo_66 qS_Mo_size d_Mo_wouldNow_30 rfl (Nat.le_of_ble_eq_true rfl) ⟨Nat.zero_le _, Nat.zero_le _⟩ ⟨Nat.le_of_ble_eq_true rfl, Nat.le_of_ble_eq_true rfl⟩ ?_
    exact z_iret rfl (⟨⟨t, ht1, ht4, ht, by unfold qWd; rw [if_pos c_25]⟩, V, hM, zKp.rf, zFr.rf⟩) (by first | decide | omega) (by first | decide | omega) d_Mo_wouldNow_33
set_option maxHeartbeats 4000000 in
set_option maxRecDepth 100000 in
theorem m_Mo_wouldE {g0 : State} {d : zD} {l : Launch} {a0 : Array Value} (hs0 : zS0 d a0 g0) (hst : l.stackTraces = false) {G : zG} {B : Nat → Nat} {V : Nat → Nat → Int32} {nk ns ne ec : Nat} (hM : zM d B V nk ns ne ec G) (x set w : Int32) {iv : Nat → Nat} (hok : mOk V nk ns iv) : zMet g0 d l y_Mo_would c_Mo_would 4 ((Option.some Jvm.ClassFile.FieldType.int)) 16 0 0 [.ref (B 0), .int x, .int set, .int w] (G) (mAq d B nk ns ne ec V G (rWd nk ns x set w)) (zNo) := by
  have hnk : nk ≤ 8 := hM.2.1
  have hns : ns ≤ 6 := hM.2.2.1
  have hne : ne ≤ 64 := hM.2.2.2.1
  have hp2 : 2 ^ nk ≤ 256 := Nat.pow_le_pow_right (n := 2) (by decide) hnk
  refine z_entry hs0 hst (by decide) (Nat.le_of_ble_eq_true rfl) (fun p e s m args below meth c => ?_)
  refine z_aload_n 0 d_Mo_would_0 rfl rfl ?_
  refine z_iconst (v := 0) d_Mo_would_1 (by decide) ?_
  refine z_put zc_Mo 0 (by decide) qF_Mo_36 hM.mo rfl rfl rfl (Nat.le_of_ble_eq_true rfl) d_Mo_would_2 ?_
  obtain ⟨V1, hM1, hK1, hF1, hT1⟩ := hM.putT 0
  refine z_aload_n 0 d_Mo_would_5 rfl rfl ?_
  refine z_iload_n 1 d_Mo_would_6 rfl rfl ?_
  refine z_callV0 (m_Mo_isSecret hs0 hst hM1 x) ym_Mo_isSecret qM_Mo_147 qI_Mo_isSecret qV_Mo_Mo_isSecret zc_Mo hM1.mo d_Mo_would_7 rfl (Nat.le_of_ble_eq_true rfl) ⟨Nat.zero_le _, Nat.zero_le _⟩ ⟨Nat.le_of_ble_eq_true rfl, Nat.le_of_ble_eq_true rfl⟩ ?_
  refine z_if_ne 19 d_Mo_would_10 (by decide) (fun c_10 => ?_) (fun c_10 => ?_)
  · skip
    obtain ⟨si, hsi, rfl⟩ := zin_n ((zb_n0 _).mp c_10) (by omega)
    refine z_aload_n 0 d_Mo_would_19 rfl rfl ?_
    refine z_iload_n 2 d_Mo_would_20 rfl rfl ?_
    refine z_callV0 (m_Mo_isSet hs0 hst hM1 set) ym_Mo_isSet qM_Mo_129 qI_Mo_isSet qV_Mo_Mo_isSet zc_Mo hM1.mo d_Mo_would_21 rfl (Nat.le_of_ble_eq_true rfl) ⟨Nat.zero_le _, Nat.zero_le _⟩ ⟨Nat.le_of_ble_eq_true rfl, Nat.le_of_ble_eq_true rfl⟩ ?_
    refine z_if_eq 36 d_Mo_would_24 (by decide) (fun c_24 => ?_) (fun c_24 => ?_)
    · skip
      refine z_aload_n 0 d_Mo_would_36 rfl rfl ?_
      refine z_iconst (v := 2) d_Mo_would_37 (by decide) ?_
      refine z_callV0 (m_Mo_no hs0 hst hM1.mo 2) ym_Mo_no qM_Mo_119 qI_Mo_no qV_Mo_Mo_no zc_Mo hM1.mo d_Mo_would_38 rfl (Nat.le_of_ble_eq_true rfl) ⟨Nat.zero_le _, Nat.zero_le _⟩ ⟨Nat.le_of_ble_eq_true rfl, Nat.le_of_ble_eq_true rfl⟩ ?_
      obtain ⟨V9, hM9, hK9, hF9, hT9⟩ := hM1.putT 2
      exact z_iret rfl (by first | exact ⟨_, V9, rfl, Or.inr ⟨si, hsi, rfl, Or.inl ⟨Or.inl ((zb_0 _).mp c_24), hT9⟩⟩, hM9, hK1.tr hK9, hF1.tr hF9⟩ | exact ⟨_, V9, rfl, Or.inr ⟨si, hsi, rfl, Or.inl ⟨Or.inr ((zb_0 _).mp c_33), hT9⟩⟩, hM9, hK1.tr hK9, hF1.tr hF9⟩) (by first | decide | omega) (by first | decide | omega) d_Mo_would_41
    · skip
      obtain ⟨g, hg, rfl⟩ := zsetok_le hnk ((zb_n0 _).mp c_24)
      refine z_iload_n 3 d_Mo_would_27 rfl rfl ?_
      refine z_iconst (v := 0) d_Mo_would_28 (by decide) ?_
      refine z_iconst (v := 5) d_Mo_would_29 (by decide) ?_
      refine z_callS0 (m_Mo_in hs0 hst w 0 _) ym_Mo_in qM_Mo_115 qS_Mo_in d_Mo_would_30 rfl (Nat.le_of_ble_eq_true rfl) ⟨Nat.zero_le _, Nat.zero_le _⟩ ⟨Nat.le_of_ble_eq_true rfl, Nat.le_of_ble_eq_true rfl⟩ ?_
      refine z_if_ne 42 d_Mo_would_33 (by decide) (fun c_33 => ?_) (fun c_33 => ?_)
      · skip
        refine z_aload_n 0 d_Mo_would_42 rfl rfl ?_
        refine z_iload_n 1 d_Mo_would_43 rfl rfl ?_
        refine z_iload_n 2 d_Mo_would_44 rfl rfl ?_
        refine z_iload_n 3 d_Mo_would_45 rfl rfl ?_
        refine z_callVp1 ((m_Mo_wouldNowE hs0 hst hM1 hsi hg w (hK1.ok hok))) ym_Mo_wouldNow qM_Mo_247 qI_Mo_wouldNow qV_Mo_Mo_wouldNow zc_Mo hM1.mo d_Mo_would_46 rfl (Nat.le_of_ble_eq_true rfl) ⟨Nat.zero_le _, Nat.zero_le _⟩ ⟨Nat.le_of_ble_eq_true rfl, Nat.le_of_ble_eq_true rfl⟩ (fun r_46 G_46 hp_46 => ?_)
        obtain ⟨⟨t9, h91, h94, ht9, hr_46⟩, V2, hM2, hK2, hF2⟩ := hp_46
        obtain rfl : r_46 = _ := hr_46
        exact z_iret rfl (⟨_, V2, rfl, Or.inr ⟨si, hsi, rfl, Or.inr ⟨g, hg, rfl, (zb_n0 _).mp c_33, (congrFun (hK2.r (r := 0) (by decide) (by decide)) 0).trans hT1, t9, h91, h94, by rw [hK2.r (r := 200 + si) (by omega) (by omega)]; exact ht9, by rw [qWd_k hK2]⟩⟩, hM2, hK1.tr hK2.m.n, hF1.tr hF2⟩) (by first | decide | omega) (by first | decide | omega) d_Mo_would_49
      · skip
        refine z_aload_n 0 d_Mo_would_36 rfl rfl ?_
        refine z_iconst (v := 2) d_Mo_would_37 (by decide) ?_
        refine z_callV0 (m_Mo_no hs0 hst hM1.mo 2) ym_Mo_no qM_Mo_119 qI_Mo_no qV_Mo_Mo_no zc_Mo hM1.mo d_Mo_would_38 rfl (Nat.le_of_ble_eq_true rfl) ⟨Nat.zero_le _, Nat.zero_le _⟩ ⟨Nat.le_of_ble_eq_true rfl, Nat.le_of_ble_eq_true rfl⟩ ?_
        obtain ⟨V9, hM9, hK9, hF9, hT9⟩ := hM1.putT 2
        exact z_iret rfl (by first | exact ⟨_, V9, rfl, Or.inr ⟨si, hsi, rfl, Or.inl ⟨Or.inl ((zb_0 _).mp c_24), hT9⟩⟩, hM9, hK1.tr hK9, hF1.tr hF9⟩ | exact ⟨_, V9, rfl, Or.inr ⟨si, hsi, rfl, Or.inl ⟨Or.inr ((zb_0 _).mp c_33), hT9⟩⟩, hM9, hK1.tr hK9, hF1.tr hF9⟩) (by first | decide | omega) (by first | decide | omega) d_Mo_would_41
  · skip
    refine z_aload_n 0 d_Mo_would_13 rfl rfl ?_
    refine z_iconst (v := 1) d_Mo_would_14 (by decide) ?_
    refine z_callV0 (m_Mo_no hs0 hst hM1.mo 1) ym_Mo_no qM_Mo_119 qI_Mo_no qV_Mo_Mo_no zc_Mo hM1.mo d_Mo_would_15 rfl (Nat.le_of_ble_eq_true rfl) ⟨Nat.zero_le _, Nat.zero_le _⟩ ⟨Nat.le_of_ble_eq_true rfl, Nat.le_of_ble_eq_true rfl⟩ ?_
    obtain ⟨V9, hM9, hK9, hF9, hT9⟩ := hM1.putT 1
    exact z_iret rfl (⟨_, V9, rfl, Or.inl ⟨(zb_0 _).mp c_10, hT9⟩, hM9, hK1.tr hK9, hF1.tr hF9⟩) (by first | decide | omega) (by first | decide | omega) d_Mo_would_18
