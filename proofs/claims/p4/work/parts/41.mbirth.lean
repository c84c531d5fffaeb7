
/-- the place of a role in the order of the reference's constructor -/
def mix (r : Nat) : Nat := match r with | 0 => 0 | 1 => 1 | 3 => 2 | 5 => 3 | 7 => 4 | 8 => 5 | _ => 6
theorem mix_inj : ∀ r, r < 10 → ∀ q, q < 10 → (r ≠ 2 ∧ r ≠ 4 ∧ r ≠ 6 ∧ q ≠ 2 ∧ q ≠ 4 ∧ q ≠ 6 ∧ mix r = mix q) → r = q := by decide
theorem mix_lt : ∀ r, r < 10 → mix r < 7 := by decide
theorem mix_0 : ∀ r, r < 10 → r ≠ 0 → 1 ≤ mix r := by decide
def mV0 : Nat → Nat → Int32 := fun r => match r with | 0 => zm6 0 23 0 0 0 0 | _ => fun _ => 0
theorem zM.init {d : zD} {h : Nat} {G0 G : zG} {L : List (Nat × va_E)} (hL : zLs h G0 L G) (hl : L.length = 6) (h0 : ∀ r, r < 10 → r ≠ 2 → r ≠ 4 → r ≠ 6 → G (zad h L (mix r)) = some (mcell d (fun q => zad h L (mix q)) 10 0 0 0 r (mV0 r))) : zM d (fun q => zad h L (mix q)) mV0 0 0 0 10 G := by
  have hz : ∀ r, mlive 0 0 0 r → r < 10 ∧ r ≠ 2 ∧ r ≠ 4 ∧ r ≠ 6 := fun r hr => by unfold mlive at hr; omega
  refine ⟨⟨fun r q hr hq e => ?_, fun r hr => ?_⟩, by decide, by decide, by decide, Or.inl rfl, by decide, fun i hi => absurd hi (Nat.not_lt_zero _), fun i hi => absurd hi (Nat.not_lt_zero _), fun i hi => absurd hi (Nat.not_lt_zero _), fun i hi => absurd hi (Nat.not_lt_zero _)⟩
  · obtain ⟨a1, a2, a3, a4⟩ := hz r hr
    obtain ⟨b1, b2, b3, b4⟩ := hz q hq
    exact mix_inj r a1 q b1 ⟨a2, a3, a4, b2, b3, b4, hL.inj (by rw [hl]; exact mix_lt r a1) (by rw [hl]; exact mix_lt q b1) e⟩
  · obtain ⟨a1, a2, a3, a4⟩ := hz r hr
    exact h0 r a1 a2 a3 a4

theorem d_Mo_init_0 : decode c_Mo_init 0 = .ok (.aload_n 0, 1) := by decide +kernel
theorem d_Mo_init_1 : decode c_Mo_init 1 = .ok (.invokespecial 1, 3) := by decide +kernel
theorem d_Mo_init_4 : decode c_Mo_init 4 = .ok (.aload_n 0, 1) := by decide +kernel
theorem d_Mo_init_5 : decode c_Mo_init 5 = .ok (.bipush 23, 2) := by decide +kernel
theorem d_Mo_init_7 : decode c_Mo_init 7 = .ok (.putfield 7, 3) := by decide +kernel
theorem d_Mo_init_10 : decode c_Mo_init 10 = .ok (.aload_n 0, 1) := by decide +kernel
theorem d_Mo_init_11 : decode c_Mo_init 11 = .ok (.new 13, 3) := by decide +kernel
theorem d_Mo_init_14 : decode c_Mo_init 14 = .ok (.dup, 1) := by decide +kernel
theorem d_Mo_init_15 : decode c_Mo_init 15 = .ok (.invokespecial 15, 3) := by decide +kernel
theorem d_Mo_init_18 : decode c_Mo_init 18 = .ok (.putfield 16, 3) := by decide +kernel
theorem d_Mo_init_21 : decode c_Mo_init 21 = .ok (.aload_n 0, 1) := by decide +kernel
theorem d_Mo_init_22 : decode c_Mo_init 22 = .ok (.new 13, 3) := by decide +kernel
theorem d_Mo_init_25 : decode c_Mo_init 25 = .ok (.dup, 1) := by decide +kernel
theorem d_Mo_init_26 : decode c_Mo_init 26 = .ok (.invokespecial 15, 3) := by decide +kernel
theorem d_Mo_init_29 : decode c_Mo_init 29 = .ok (.putfield 20, 3) := by decide +kernel
theorem d_Mo_init_32 : decode c_Mo_init 32 = .ok (.aload_n 0, 1) := by decide +kernel
theorem d_Mo_init_33 : decode c_Mo_init 33 = .ok (.new 13, 3) := by decide +kernel
theorem d_Mo_init_36 : decode c_Mo_init 36 = .ok (.dup, 1) := by decide +kernel
theorem d_Mo_init_37 : decode c_Mo_init 37 = .ok (.invokespecial 15, 3) := by decide +kernel
theorem d_Mo_init_40 : decode c_Mo_init 40 = .ok (.putfield 23, 3) := by decide +kernel
theorem d_Mo_init_43 : decode c_Mo_init 43 = .ok (.aload_n 0, 1) := by decide +kernel
theorem d_Mo_init_44 : decode c_Mo_init 44 = .ok (.bipush 97, 2) := by decide +kernel
theorem d_Mo_init_46 : decode c_Mo_init 46 = .ok (.newarray .int, 2) := by decide +kernel
theorem d_Mo_init_48 : decode c_Mo_init 48 = .ok (.putfield 26, 3) := by decide +kernel
theorem d_Mo_init_51 : decode c_Mo_init 51 = .ok (.aload_n 0, 1) := by decide +kernel
theorem d_Mo_init_52 : decode c_Mo_init 52 = .ok (.bipush 8, 2) := by decide +kernel
theorem d_Mo_init_54 : decode c_Mo_init 54 = .ok (.newarray .int, 2) := by decide +kernel
theorem d_Mo_init_56 : decode c_Mo_init 56 = .ok (.putfield 30, 3) := by decide +kernel
theorem d_Mo_init_59 : decode c_Mo_init 59 = .ok (.aload_n 0, 1) := by decide +kernel
theorem d_Mo_init_60 : decode c_Mo_init 60 = .ok (.bipush 8, 2) := by decide +kernel
theorem d_Mo_init_62 : decode c_Mo_init 62 = .ok (.newarray .int, 2) := by decide +kernel
theorem d_Mo_init_64 : decode c_Mo_init 64 = .ok (.putfield 33, 3) := by decide +kernel
theorem d_Mo_init_67 : decode c_Mo_init 67 = .ok (.iconst 1, 1) := by decide +kernel
theorem d_Mo_init_68 : decode c_Mo_init 68 = .ok (.istore_n 1, 1) := by decide +kernel
theorem d_Mo_init_69 : decode c_Mo_init 69 = .ok (.iload_n 1, 1) := by decide +kernel
theorem d_Mo_init_70 : decode c_Mo_init 70 = .ok (.bipush 97, 2) := by decide +kernel
theorem d_Mo_init_72 : decode c_Mo_init 72 = .ok (.if_icmp .ge 40, 3) := by decide +kernel
theorem d_Mo_init_75 : decode c_Mo_init 75 = .ok (.iconst 1, 1) := by decide +kernel
theorem d_Mo_init_76 : decode c_Mo_init 76 = .ok (.istore_n 2, 1) := by decide +kernel
theorem d_Mo_init_77 : decode c_Mo_init 77 = .ok (.iload_n 2, 1) := by decide +kernel
theorem d_Mo_init_78 : decode c_Mo_init 78 = .ok (.bipush 97, 2) := by decide +kernel
theorem d_Mo_init_80 : decode c_Mo_init 80 = .ok (.if_icmp .ge 26, 3) := by decide +kernel
theorem d_Mo_init_83 : decode c_Mo_init 83 = .ok (.iload_n 1, 1) := by decide +kernel
theorem d_Mo_init_84 : decode c_Mo_init 84 = .ok (.iload_n 2, 1) := by decide +kernel
theorem d_Mo_init_85 : decode c_Mo_init 85 = .ok (.imul, 1) := by decide +kernel
theorem d_Mo_init_86 : decode c_Mo_init 86 = .ok (.bipush 97, 2) := by decide +kernel
theorem d_Mo_init_88 : decode c_Mo_init 88 = .ok (.irem, 1) := by decide +kernel
theorem d_Mo_init_89 : decode c_Mo_init 89 = .ok (.iconst 1, 1) := by decide +kernel
theorem d_Mo_init_90 : decode c_Mo_init 90 = .ok (.if_icmp .ne 10, 3) := by decide +kernel
theorem d_Mo_init_93 : decode c_Mo_init 93 = .ok (.aload_n 0, 1) := by decide +kernel
theorem d_Mo_init_94 : decode c_Mo_init 94 = .ok (.getfield 26, 3) := by decide +kernel
theorem d_Mo_init_97 : decode c_Mo_init 97 = .ok (.iload_n 1, 1) := by decide +kernel
theorem d_Mo_init_98 : decode c_Mo_init 98 = .ok (.iload_n 2, 1) := by decide +kernel
theorem d_Mo_init_99 : decode c_Mo_init 99 = .ok (.iastore, 1) := by decide +kernel
theorem d_Mo_init_100 : decode c_Mo_init 100 = .ok (.iinc 2 1, 3) := by decide +kernel
theorem d_Mo_init_103 : decode c_Mo_init 103 = .ok (.goto (-26), 3) := by decide +kernel
theorem d_Mo_init_106 : decode c_Mo_init 106 = .ok (.iinc 1 1, 3) := by decide +kernel
theorem d_Mo_init_109 : decode c_Mo_init 109 = .ok (.goto (-40), 3) := by decide +kernel
theorem d_Mo_init_112 : decode c_Mo_init 112 = .ok (.return_, 1) := by decide +kernel
set_option maxHeartbeats 4000000 in
set_option maxRecDepth 100000 in
theorem m_Mo_init {g0 : State} {d : zD} {l : Launch} {a0 : Array Value} (hs0 : zS0 d a0 g0) (hst : l.stackTraces = false) {G : zG} {h : Nat} (hG_M0 : G h = some (zob 12 [.int 0, .int 0, .int 0, .int 0, .int 0, .int 0, .null, .null, .null, .null, .null, .null])) : zMet g0 d l y_Mo_init c_Mo_init 3 ((Option.none : Option Jvm.ClassFile.FieldType)) 4 6 122 [.ref h] (G) (fun r G1 => r = none ∧ ∃ B9 V9, B9 0 = h ∧ zM d B9 V9 0 0 0 10 G1 ∧ V9 0 2 = 0 ∧ (∀ r, mlive 0 0 0 r → B9 r = h ∨ G (B9 r) = none) ∧ ∀ q v, G q = some v → q ≠ h → G1 q = some v) (zNo) := by
  have hMo := hG_M0
  have hL : zLs h G [] G := zLs.nil
  refine z_entry hs0 hst (by decide) (Nat.le_of_ble_eq_true rfl) (fun p e s m args below meth c => ?_)
  refine z_aload_n 0 d_Mo_init_0 rfl rfl ?_
  refine z_objInit qM_Mo_1 qI_Oj_init_0566 qC_Oj_init_0566 d_Mo_init_1 (by decide) ⟨by decide, by decide⟩ ?_
  refine z_aload_n 0 d_Mo_init_4 rfl rfl ?_
  refine z_bipush (v := 23) d_Mo_init_5 (by decide) ?_
  refine z_put zc_Mo 1 (by decide) qF_Mo_7 hMo rfl rfl rfl (Nat.le_of_ble_eq_true rfl) d_Mo_init_7 ?_
  have hL := hL.seth (w := zob 12 [.int 0, .int 23, .int 0, .int 0, .int 0, .int 0, .null, .null, .null, .null, .null, .null])
  have hMo := zu_s (G := G) (a := h) (v := zob 12 [.int 0, .int 23, .int 0, .int 0, .int 0, .int 0, .null, .null, .null, .null, .null, .null])
  refine z_aload_n 0 d_Mo_init_10 rfl rfl ?_
  refine z_new (fs := [.int 0, .null, .int 0]) zc_AL qK_Mo_13 qO_AL qN_AL (by decide) ⟨by decide, by decide⟩ d_Mo_init_11 (fun a1 hn_a1 hb_a1 => ?_)
  refine z_dup d_Mo_init_14 rfl ?_
  refine z_callIp0 (m_AL_init hs0 hst zu_s) ym_AL_init rfl qM_Mo_15 qI_AL_init d_Mo_init_15 rfl (Nat.le_of_ble_eq_true rfl) ⟨by decide, by decide⟩ ⟨Nat.le_of_ble_eq_true rfl, Nat.le_of_ble_eq_true rfl⟩ (fun r_15 G_15 hp_15 => ?_)
  obtain ⟨hr_15, hg_15⟩ := hp_15
  obtain rfl : r_15 = none := hr_15
  rw [zu_zu] at hg_15
  have hL := hg_15 ▸ hL.push (w := zob 2 [.int 0, .ref d.2.2, .int 0]) hMo hn_a1
  have hMo : G_15 h = some (zob 12 [.int 0, .int 23, .int 0, .int 0, .int 0, .int 0, .null, .null, .null, .null, .null, .null]) := by rw [hg_15]; exact (zu_n (ne_of_none hMo hn_a1)).trans hMo
  refine z_putF zc_Mo 6 (by decide) qF_Mo_16 hMo rfl rfl rfl rfl rfl (Nat.le_of_ble_eq_true rfl) d_Mo_init_18 ?_
  have hL := hL.seth (w := zob 12 [.int 0, .int 23, .int 0, .int 0, .int 0, .int 0, .ref a1, .null, .null, .null, .null, .null])
  have hMo : zu G_15 h (zob 12 [.int 0, .int 23, .int 0, .int 0, .int 0, .int 0, .ref a1, .null, .null, .null, .null, .null]) h = some (zob 12 [.int 0, .int 23, .int 0, .int 0, .int 0, .int 0, .ref a1, .null, .null, .null, .null, .null]) := zu_s
  refine z_aload_n 0 d_Mo_init_21 rfl rfl ?_
  refine z_new (fs := [.int 0, .null, .int 0]) zc_AL qK_Mo_13 qO_AL qN_AL (by decide) ⟨by decide, by decide⟩ d_Mo_init_22 (fun a3 hn_a3 hb_a3 => ?_)
  refine z_dup d_Mo_init_25 rfl ?_
  refine z_callIp0 (m_AL_init hs0 hst zu_s) ym_AL_init rfl qM_Mo_15 qI_AL_init d_Mo_init_26 rfl (Nat.le_of_ble_eq_true rfl) ⟨by decide, by decide⟩ ⟨Nat.le_of_ble_eq_true rfl, Nat.le_of_ble_eq_true rfl⟩ (fun r_26 G_26 hp_26 => ?_)
  obtain ⟨hr_26, hg_26⟩ := hp_26
  obtain rfl : r_26 = none := hr_26
  rw [zu_zu] at hg_26
  have hL := hg_26 ▸ hL.push (w := zob 2 [.int 0, .ref d.2.2, .int 0]) hMo hn_a3
  have hMo : G_26 h = some (zob 12 [.int 0, .int 23, .int 0, .int 0, .int 0, .int 0, .ref a1, .null, .null, .null, .null, .null]) := by rw [hg_26]; exact (zu_n (ne_of_none hMo hn_a3)).trans hMo
  refine z_putF zc_Mo 7 (by decide) qF_Mo_20 hMo rfl rfl rfl rfl rfl (Nat.le_of_ble_eq_true rfl) d_Mo_init_29 ?_
  have hL := hL.seth (w := zob 12 [.int 0, .int 23, .int 0, .int 0, .int 0, .int 0, .ref a1, .ref a3, .null, .null, .null, .null])
  have hMo : zu G_26 h (zob 12 [.int 0, .int 23, .int 0, .int 0, .int 0, .int 0, .ref a1, .ref a3, .null, .null, .null, .null]) h = some (zob 12 [.int 0, .int 23, .int 0, .int 0, .int 0, .int 0, .ref a1, .ref a3, .null, .null, .null, .null]) := zu_s
  refine z_aload_n 0 d_Mo_init_32 rfl rfl ?_
  refine z_new (fs := [.int 0, .null, .int 0]) zc_AL qK_Mo_13 qO_AL qN_AL (by decide) ⟨by decide, by decide⟩ d_Mo_init_33 (fun a5 hn_a5 hb_a5 => ?_)
  refine z_dup d_Mo_init_36 rfl ?_
  refine z_callIp0 (m_AL_init hs0 hst zu_s) ym_AL_init rfl qM_Mo_15 qI_AL_init d_Mo_init_37 rfl (Nat.le_of_ble_eq_true rfl) ⟨by decide, by decide⟩ ⟨Nat.le_of_ble_eq_true rfl, Nat.le_of_ble_eq_true rfl⟩ (fun r_37 G_37 hp_37 => ?_)
  obtain ⟨hr_37, hg_37⟩ := hp_37
  obtain rfl : r_37 = none := hr_37
  rw [zu_zu] at hg_37
  have hL := hg_37 ▸ hL.push (w := zob 2 [.int 0, .ref d.2.2, .int 0]) hMo hn_a5
  have hMo : G_37 h = some (zob 12 [.int 0, .int 23, .int 0, .int 0, .int 0, .int 0, .ref a1, .ref a3, .null, .null, .null, .null]) := by rw [hg_37]; exact (zu_n (ne_of_none hMo hn_a5)).trans hMo
  refine z_putF zc_Mo 8 (by decide) qF_Mo_23 hMo rfl rfl rfl rfl rfl (Nat.le_of_ble_eq_true rfl) d_Mo_init_40 ?_
  have hL := hL.seth (w := zob 12 [.int 0, .int 23, .int 0, .int 0, .int 0, .int 0, .ref a1, .ref a3, .ref a5, .null, .null, .null])
  have hMo : zu G_37 h (zob 12 [.int 0, .int 23, .int 0, .int 0, .int 0, .int 0, .ref a1, .ref a3, .ref a5, .null, .null, .null]) h = some (zob 12 [.int 0, .int 23, .int 0, .int 0, .int 0, .int 0, .ref a1, .ref a3, .ref a5, .null, .null, .null]) := zu_s
  refine z_aload_n 0 d_Mo_init_43 rfl rfl ?_
  refine z_bipush (v := 97) d_Mo_init_44 (by decide) ?_
  refine z_newaI 97 qA_int (by decide) rfl (by decide) ⟨by decide, by decide⟩ d_Mo_init_46 (fun iv hn_iv hb_iv => ?_)
  have hL := hL.push (w := zI d 97 (fun _ => 0)) hMo hn_iv
  have hMo := (zu_n (v := zI d 97 (fun _ => 0)) (ne_of_none hMo hn_iv)).trans hMo
  refine z_putF zc_Mo 9 (by decide) qF_Mo_26 hMo rfl rfl rfl rfl rfl (Nat.le_of_ble_eq_true rfl) d_Mo_init_48 ?_
  have hL := hL.seth (w := zob 12 [.int 0, .int 23, .int 0, .int 0, .int 0, .int 0, .ref a1, .ref a3, .ref a5, .ref iv, .null, .null])
  have hMo : (zu (zu (zu G_37 h (zob 12 [.int 0, .int 23, .int 0, .int 0, .int 0, .int 0, .ref a1, .ref a3, .ref a5, .null, .null, .null])) iv (zI d 97 (fun _ => 0))) h (zob 12 [.int 0, .int 23, .int 0, .int 0, .int 0, .int 0, .ref a1, .ref a3, .ref a5, .ref iv, .null, .null])) h = some (zob 12 [.int 0, .int 23, .int 0, .int 0, .int 0, .int 0, .ref a1, .ref a3, .ref a5, .ref iv, .null, .null]) := zu_s
  refine z_aload_n 0 d_Mo_init_51 rfl rfl ?_
  refine z_bipush (v := 8) d_Mo_init_52 (by decide) ?_
  refine z_newaI 8 qA_int (by decide) rfl (by decide) ⟨by decide, by decide⟩ d_Mo_init_54 (fun pt hn_pt hb_pt => ?_)
  have hL := hL.push (w := zI d 8 (fun _ => 0)) hMo hn_pt
  have hMo := (zu_n (v := zI d 8 (fun _ => 0)) (ne_of_none hMo hn_pt)).trans hMo
  refine z_putF zc_Mo 10 (by decide) qF_Mo_30 hMo rfl rfl rfl rfl rfl (Nat.le_of_ble_eq_true rfl) d_Mo_init_56 ?_
  have hL := hL.seth (w := zob 12 [.int 0, .int 23, .int 0, .int 0, .int 0, .int 0, .ref a1, .ref a3, .ref a5, .ref iv, .ref pt, .null])
  have hMo : (zu (zu (zu (zu (zu G_37 h (zob 12 [.int 0, .int 23, .int 0, .int 0, .int 0, .int 0, .ref a1, .ref a3, .ref a5, .null, .null, .null])) iv (zI d 97 (fun _ => 0))) h (zob 12 [.int 0, .int 23, .int 0, .int 0, .int 0, .int 0, .ref a1, .ref a3, .ref a5, .ref iv, .null, .null])) pt (zI d 8 (fun _ => 0))) h (zob 12 [.int 0, .int 23, .int 0, .int 0, .int 0, .int 0, .ref a1, .ref a3, .ref a5, .ref iv, .ref pt, .null])) h = some (zob 12 [.int 0, .int 23, .int 0, .int 0, .int 0, .int 0, .ref a1, .ref a3, .ref a5, .ref iv, .ref pt, .null]) := zu_s
  refine z_aload_n 0 d_Mo_init_59 rfl rfl ?_
  refine z_bipush (v := 8) d_Mo_init_60 (by decide) ?_
  refine z_newaI 8 qA_int (by decide) rfl (by decide) ⟨by decide, by decide⟩ d_Mo_init_62 (fun nb hn_nb hb_nb => ?_)
  have hL := hL.push (w := zI d 8 (fun _ => 0)) hMo hn_nb
  have hMo := (zu_n (v := zI d 8 (fun _ => 0)) (ne_of_none hMo hn_nb)).trans hMo
  refine z_putF zc_Mo 11 (by decide) qF_Mo_33 hMo rfl rfl rfl rfl rfl (Nat.le_of_ble_eq_true rfl) d_Mo_init_64 ?_
  have hL := hL.seth (w := zob 12 [.int 0, .int 23, .int 0, .int 0, .int 0, .int 0, .ref a1, .ref a3, .ref a5, .ref iv, .ref pt, .ref nb])
  have hMo : (zu (zu (zu (zu (zu (zu (zu G_37 h (zob 12 [.int 0, .int 23, .int 0, .int 0, .int 0, .int 0, .ref a1, .ref a3, .ref a5, .null, .null, .null])) iv (zI d 97 (fun _ => 0))) h (zob 12 [.int 0, .int 23, .int 0, .int 0, .int 0, .int 0, .ref a1, .ref a3, .ref a5, .ref iv, .null, .null])) pt (zI d 8 (fun _ => 0))) h (zob 12 [.int 0, .int 23, .int 0, .int 0, .int 0, .int 0, .ref a1, .ref a3, .ref a5, .ref iv, .ref pt, .null])) nb (zI d 8 (fun _ => 0))) h (zob 12 [.int 0, .int 23, .int 0, .int 0, .int 0, .int 0, .ref a1, .ref a3, .ref a5, .ref iv, .ref pt, .ref nb])) h = some (zob 12 [.int 0, .int 23, .int 0, .int 0, .int 0, .int 0, .ref a1, .ref a3, .ref a5, .ref iv, .ref pt, .ref nb]) := zu_s
  have hLf : zLs h G ([(a1, zob 2 [.int 0, .ref d.2.2, .int 0]), (a3, zob 2 [.int 0, .ref d.2.2, .int 0]), (a5, zob 2 [.int 0, .ref d.2.2, .int 0]), (iv, zI d 97 (fun _ => 0)), (pt, zI d 8 (fun _ => 0)), (nb, zI d 8 (fun _ => 0))]) (zu (zu (zu (zu (zu (zu (zu G_37 h (zob 12 [.int 0, .int 23, .int 0, .int 0, .int 0, .int 0, .ref a1, .ref a3, .ref a5, .null, .null, .null])) iv (zI d 97 (fun _ => 0))) h (zob 12 [.int 0, .int 23, .int 0, .int 0, .int 0, .int 0, .ref a1, .ref a3, .ref a5, .ref iv, .null, .null])) pt (zI d 8 (fun _ => 0))) h (zob 12 [.int 0, .int 23, .int 0, .int 0, .int 0, .int 0, .ref a1, .ref a3, .ref a5, .ref iv, .ref pt, .null])) nb (zI d 8 (fun _ => 0))) h (zob 12 [.int 0, .int 23, .int 0, .int 0, .int 0, .int 0, .ref a1, .ref a3, .ref a5, .ref iv, .ref pt, .ref nb])) := hL
  have hM0 : zM d (fun q => zad h ([(a1, zob 2 [.int 0, .ref d.2.2, .int 0]), (a3, zob 2 [.int 0, .ref d.2.2, .int 0]), (a5, zob 2 [.int 0, .ref d.2.2, .int 0]), (iv, zI d 97 (fun _ => 0)), (pt, zI d 8 (fun _ => 0)), (nb, zI d 8 (fun _ => 0))]) (mix q)) mV0 0 0 0 10 (zu (zu (zu (zu (zu (zu (zu G_37 h (zob 12 [.int 0, .int 23, .int 0, .int 0, .int 0, .int 0, .ref a1, .ref a3, .ref a5, .null, .null, .null])) iv (zI d 97 (fun _ => 0))) h (zob 12 [.int 0, .int 23, .int 0, .int 0, .int 0, .int 0, .ref a1, .ref a3, .ref a5, .ref iv, .null, .null])) pt (zI d 8 (fun _ => 0))) h (zob 12 [.int 0, .int 23, .int 0, .int 0, .int 0, .int 0, .ref a1, .ref a3, .ref a5, .ref iv, .ref pt, .null])) nb (zI d 8 (fun _ => 0))) h (zob 12 [.int 0, .int 23, .int 0, .int 0, .int 0, .int 0, .ref a1, .ref a3, .ref a5, .ref iv, .ref pt, .ref nb])) := zM.init hLf rfl (fun r h1 h2 h4 h6 => by
    match r, h1, h2, h4, h6 with
    | 0, _, _, _, _ => exact hMo
    | 1, _, _, _, _ => exact (hLf.at (i := 0) rfl).1
    | 3, _, _, _, _ => exact (hLf.at (i := 1) rfl).1
    | 5, _, _, _, _ => exact (hLf.at (i := 2) rfl).1
    | 7, _, _, _, _ => exact (hLf.at (i := 3) rfl).1
    | 8, _, _, _, _ => exact (hLf.at (i := 4) rfl).1
    | 9, _, _, _, _ => exact (hLf.at (i := 5) rfl).1
    | r + 10, h1, _, _, _ => exact absurd h1 (by omega))
  have hF0 := hLf.2.2
  have hB0 : ∀ r, mlive 0 0 0 r → (fun q => zad h ([(a1, zob 2 [.int 0, .ref d.2.2, .int 0]), (a3, zob 2 [.int 0, .ref d.2.2, .int 0]), (a5, zob 2 [.int 0, .ref d.2.2, .int 0]), (iv, zI d 97 (fun _ => 0)), (pt, zI d 8 (fun _ => 0)), (nb, zI d 8 (fun _ => 0))]) (mix q)) r = h ∨ G ((fun q => zad h ([(a1, zob 2 [.int 0, .ref d.2.2, .int 0]), (a3, zob 2 [.int 0, .ref d.2.2, .int 0]), (a5, zob 2 [.int 0, .ref d.2.2, .int 0]), (iv, zI d 97 (fun _ => 0)), (pt, zI d 8 (fun _ => 0)), (nb, zI d 8 (fun _ => 0))]) (mix q)) r) = none := fun r hr => by
    have hr2 : r < 10 ∧ r ≠ 2 ∧ r ≠ 4 ∧ r ≠ 6 := by unfold mlive at hr; omega
    by_cases e : r = 0
    · subst e; exact Or.inl rfl
    · have h1 := mix_0 r hr2.1 e
      have h7 := mix_lt r hr2.1
      have := (hLf.at (i := mix r - 1) (List.getElem?_eq_getElem (show mix r - 1 < 6 by omega))).2
      rw [show mix r - 1 + 1 = mix r by omega] at this
      exact Or.inr this
  have hb0 : (fun q => zad h ([(a1, zob 2 [.int 0, .ref d.2.2, .int 0]), (a3, zob 2 [.int 0, .ref d.2.2, .int 0]), (a5, zob 2 [.int 0, .ref d.2.2, .int 0]), (iv, zI d 97 (fun _ => 0)), (pt, zI d 8 (fun _ => 0)), (nb, zI d 8 (fun _ => 0))]) (mix q)) 0 = h := rfl
  obtain ⟨B, eB⟩ : ∃ b : Nat → Nat, b = (fun q => zad h ([(a1, zob 2 [.int 0, .ref d.2.2, .int 0]), (a3, zob 2 [.int 0, .ref d.2.2, .int 0]), (a5, zob 2 [.int 0, .ref d.2.2, .int 0]), (iv, zI d 97 (fun _ => 0)), (pt, zI d 8 (fun _ => 0)), (nb, zI d 8 (fun _ => 0))]) (mix q)) := ⟨_, rfl⟩
  rw [← eB] at hM0 hB0 hb0
  clear eB
  obtain ⟨Gf, eG⟩ : ∃ g, g = (zu (zu (zu (zu (zu (zu (zu G_37 h (zob 12 [.int 0, .int 23, .int 0, .int 0, .int 0, .int 0, .ref a1, .ref a3, .ref a5, .null, .null, .null])) iv (zI d 97 (fun _ => 0))) h (zob 12 [.int 0, .int 23, .int 0, .int 0, .int 0, .int 0, .ref a1, .ref a3, .ref a5, .ref iv, .null, .null])) pt (zI d 8 (fun _ => 0))) h (zob 12 [.int 0, .int 23, .int 0, .int 0, .int 0, .int 0, .ref a1, .ref a3, .ref a5, .ref iv, .ref pt, .null])) nb (zI d 8 (fun _ => 0))) h (zob 12 [.int 0, .int 23, .int 0, .int 0, .int 0, .int 0, .ref a1, .ref a3, .ref a5, .ref iv, .ref pt, .ref nb])) := ⟨_, rfl⟩
  rw [← eG] at hM0 hF0
  refine z_geq eG.symm ?_
  subst hb0
  refine z_iconst (v := (nI 1)) d_Mo_init_67 (by decide) ?_
  refine z_istore_n (L' := [(1, _), (0, _)]) d_Mo_init_68 rfl (by decide) rfl ?_
  have key_69 : ∀ (n : Nat) (k : Nat) (G2 : zG) (V2 : Nat → Nat → Int32), 97 - k < n → (k ≤ 97) → (zM d B V2 0 0 0 10 G2) → (zKp (fun r => r = 7) mV0 V2) → (mFr B 0 0 0 Gf G2) → Z g0 d y_Mo_init c_Mo_init 3 ((Option.none : Option Jvm.ClassFile.FieldType)) [] p l e (zR 4 6 122) s m args below meth c (vx_MQ below (zQc g0 d (fun r G1 => r = none ∧ ∃ B9 V9, B9 0 = B 0 ∧ zM d B9 V9 0 0 0 10 G1 ∧ V9 0 2 = 0 ∧ (∀ r, mlive 0 0 0 r → B9 r = B 0 ∨ G (B9 r) = none) ∧ ∀ q v, G q = some v → q ≠ B 0 → G1 q = some v)) (zXc g0 d (zNo)) args s 6 122 (zA g0)) 6 122 (G2) [(1, .int (nI k)), (0, .ref (B 0))] [] 69 := by
    intro n
    induction n with
    | zero => intro k G2 V2 h0; exact absurd h0 (Nat.not_lt_zero _)
    | succ n ih_69 =>
      intro k G2 V2 hm_69 hk hM2 hK2 hF2
      refine z_iload_n 0 d_Mo_init_69 rfl rfl ?_
      refine z_bipush (v := (nI 97)) d_Mo_init_70 (by decide) ?_
      refine z_icmp_ge 112 d_Mo_init_72 (by decide) (fun c_72 => ?_) (fun c_72 => ?_)
      · skip
        exact z_vret rfl (⟨rfl, B, V2, rfl, hM2, (by rw [hK2 0 (by decide)]; rfl), hB0, fun q v hq hn => hF2 q v (hF0 q v hq hn) (fun r hr e => by
              rcases hB0 r hr with e2 | e2
              · exact hn (e.trans e2)
              · rw [← e, hq] at e2; cases e2)⟩) (by first | decide | omega) (by first | decide | omega) d_Mo_init_112
      · skip
        have hk6 : k < 97 := Nat.lt_of_not_le fun q => c_72 (nI_le (a := 97) (b := k) q (by omega))
        refine z_iconst (v := (nI 1)) d_Mo_init_75 (by decide) ?_
        refine z_istore_n (L' := [(2, _), (1, _), (0, _)]) d_Mo_init_76 rfl (by decide) rfl ?_
        have key_77 : ∀ (n : Nat) (j : Nat) (G2 : zG) (V2 : Nat → Nat → Int32), 97 - j < n → (j ≤ 97) → (zM d B V2 0 0 0 10 G2) → (zKp (fun r => r = 7) mV0 V2) → (mFr B 0 0 0 Gf G2) → Z g0 d y_Mo_init c_Mo_init 3 ((Option.none : Option Jvm.ClassFile.FieldType)) [] p l e (zR 4 6 122) s m args below meth c (vx_MQ below (zQc g0 d (fun r G1 => r = none ∧ ∃ B9 V9, B9 0 = B 0 ∧ zM d B9 V9 0 0 0 10 G1 ∧ V9 0 2 = 0 ∧ (∀ r, mlive 0 0 0 r → B9 r = B 0 ∨ G (B9 r) = none) ∧ ∀ q v, G q = some v → q ≠ B 0 → G1 q = some v)) (zXc g0 d (zNo)) args s 6 122 (zA g0)) 6 122 (G2) [(2, .int (nI j)), (1, .int (nI k)), (0, .ref (B 0))] [] 77 := by
          intro n
          induction n with
          | zero => intro j G2 V2 h0; exact absurd h0 (Nat.not_lt_zero _)
          | succ n ih_77 =>
            intro j G2 V2 hm_77 hj hM2 hK2 hF2
            refine z_iload_n 0 d_Mo_init_77 rfl rfl ?_
            refine z_bipush (v := (nI 97)) d_Mo_init_78 (by decide) ?_
            refine z_icmp_ge 106 d_Mo_init_80 (by decide) (fun c_80 => ?_) (fun c_80 => ?_)
            · skip
              refine z_iinc (v := nI (k + 1)) (L' := [(1, _), (2, _), (0, _)]) 1 d_Mo_init_106 rfl (nI_1 k) (by decide) rfl ?_
              refine z_goto 69 d_Mo_init_109 (by decide) ?_
              refine z_sub (L' := [(1, _), (0, _)]) [0, 2] rfl ?_
              exact ih_69 (k + 1) _ _ (by omega) (by omega) hM2 hK2 hF2
            · skip
              have hj6 : j < 97 := Nat.lt_of_not_le fun q => c_80 (nI_le (a := 97) (b := j) q (by omega))
              refine z_iload_n 1 d_Mo_init_83 rfl rfl ?_
              refine z_iload_n 0 d_Mo_init_84 rfl rfl ?_
              refine z_imul d_Mo_init_85 ?_
              refine z_bipush (v := 97) d_Mo_init_86 (by decide) ?_
              refine z_irem d_Mo_init_88 (by decide) ?_
              refine z_iconst (v := 1) d_Mo_init_89 (by decide) ?_
              refine z_icmp_ne 100 d_Mo_init_90 (by decide) (fun c_90 => ?_) (fun c_90 => ?_)
              · skip
                refine z_iinc (v := nI (j + 1)) (L' := [(2, _), (1, _), (0, _)]) 0 d_Mo_init_100 rfl (nI_1 j) (by decide) rfl ?_
                refine z_goto 77 d_Mo_init_103 (by decide) ?_
                first
                  | exact ih_77 (j + 1) _ _ (by omega) (by omega) hM3 hK3 hF3
                  | exact ih_77 (j + 1) _ _ (by omega) (by omega) hM2 hK2 hF2
              · skip
                refine z_aload_n 2 d_Mo_init_93 rfl rfl ?_
                refine z_get zc_Mo 9 (by decide) qF_Mo_26 hM2.mo rfl d_Mo_init_94 ?_
                refine z_iload_n 1 d_Mo_init_97 rfl rfl ?_
                refine z_iload_n 0 d_Mo_init_98 rfl rfl ?_
                refine z_iastN hM2.iv (show k < 97 by omega) (by decide) d_Mo_init_99 ?_
                have hM3 := hM2.put (ml_s 7) (upd (V2 7) k (nI j)) rfl rfl (hM2.2.off (Or.inl (by decide)))
                have hK3 := hK2.tr (zKp.set (P := fun r => r = 7) (V := V2) (r := 7) (v := upd (V2 7) k (nI j)) rfl)
                have hF3 := hF2.tr (zM.frput (w := zI d 97 (upd (V2 7) k (nI j))) (ml_s 7) rfl)
                refine z_iinc (v := nI (j + 1)) (L' := [(2, _), (1, _), (0, _)]) 0 d_Mo_init_100 rfl (nI_1 j) (by decide) rfl ?_
                refine z_goto 77 d_Mo_init_103 (by decide) ?_
                first
                  | exact ih_77 (j + 1) _ _ (by omega) (by omega) hM3 hK3 hF3
                  | exact ih_77 (j + 1) _ _ (by omega) (by omega) hM2 hK2 hF2
        exact key_77 98 1 _ _ (by omega) (by omega) hM2 hK2 hF2
  exact key_69 98 1 _ _ (by omega) (by omega) hM0 zKp.rf zFr.rf
