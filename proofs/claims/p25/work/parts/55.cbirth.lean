
/-! a constructor's work: the object at h, and the fresh cells L beside it, from the picture G0 -/
def zLs (h : Nat) (G0 : zG) (L : List (Nat × va_E)) (G : zG) : Prop := (h :: L.map (·.1)).Nodup ∧ (∀ p ∈ L, G p.1 = some p.2 ∧ G0 p.1 = none) ∧ ∀ q v, G0 q = some v → q ≠ h → G q = some v
section ZLS
variable {h a : Nat} {G0 G : zG} {L : List (Nat × va_E)} {w x : va_E}
theorem zLs.nil : zLs h G0 [] G0 := ⟨by simp, by simp, fun _ _ q _ => q⟩
theorem zLs.push (hL : zLs h G0 L G) (hh : G h = some x) (ha : G a = none) : zLs h G0 (L ++ [(a, w)]) (zu G a w) := by
  obtain ⟨h1, h2, h3⟩ := hL
  have hha : h ≠ a := ne_of_none hh ha
  have hla : ∀ p ∈ L, p.1 ≠ a := fun p hp => ne_of_none (h2 p hp).1 ha
  have h0 : G0 a = none := by
    cases e : G0 a with
    | none => rfl
    | some v => rw [h3 a v e hha.symm] at ha; cases ha
  refine ⟨?_, fun p hp => ?_, fun q v hq hqh => ?_⟩
  · rw [List.map_append, ← List.cons_append, List.nodup_append]
    refine ⟨h1, by simp, fun p hp q hq => ?_⟩
    simp only [List.map_cons, List.map_nil, List.mem_singleton] at hq
    subst hq
    rcases List.mem_cons.mp hp with rfl | hp
    · exact hha
    · obtain ⟨z, hz, rfl⟩ := List.mem_map.mp hp
      exact hla z hz
  · rcases List.mem_append.mp hp with hp | hp
    · rw [zu_n (hla p hp)]; exact h2 p hp
    · rw [List.mem_singleton.mp hp]
      exact ⟨zu_s, h0⟩
  · rw [zu_n (fun e => by rw [e, h0] at hq; cases hq)]; exact h3 q v hq hqh
theorem zLs.seth (hL : zLs h G0 L G) : zLs h G0 L (zu G h w) := by
  obtain ⟨h1, h2, h3⟩ := hL
  refine ⟨h1, fun p hp => ?_, fun q v hq hqh => by rw [zu_n hqh]; exact h3 q v hq hqh⟩
  rw [zu_n (fun e => (List.nodup_cons.mp h1).1 (List.mem_map.mpr ⟨p, hp, e⟩))]
  exact h2 p hp
/-- the addresses, told by place -/
def zad (h : Nat) (L : List (Nat × va_E)) (k : Nat) : Nat := (h :: L.map (·.1)).getD k 0
theorem zLs.inj (hL : zLs h G0 L G) {i j : Nat} (hi : i < L.length + 1) (hj : j < L.length + 1) (e : zad h L i = zad h L j) : i = j := by
  have l1 : i < (h :: L.map (·.1)).length := by simpa using hi
  have l2 : j < (h :: L.map (·.1)).length := by simpa using hj
  unfold zad at e
  rw [List.getD_eq_getElem?_getD, List.getD_eq_getElem?_getD, List.getElem?_eq_getElem l1, List.getElem?_eq_getElem l2] at e
  exact (List.getElem?_inj l1 hL.1).mp (by rw [List.getElem?_eq_getElem l1, List.getElem?_eq_getElem l2]; exact congrArg some e)
theorem zLs.at (hL : zLs h G0 L G) {i : Nat} {p : Nat × va_E} (hi : L[i]? = some p) : G (zad h L (i + 1)) = some p.2 ∧ G0 (zad h L (i + 1)) = none := by
  have := hL.2.1 p (List.mem_of_getElem? hi)
  have e : zad h L (i + 1) = p.1 := by
    unfold zad
    rw [List.getD_eq_getElem?_getD, List.getElem?_cons_succ, List.getElem?_map, hi]
    rfl
  rw [e]; exact this
end ZLS
/-- the place of a role in the order of the constructor -/
def tix (r : Nat) : Nat := if r ≤ 1 then r else if r = 3 then 2 else r - 2
def tV0 : Nat → Nat → Int32 := fun r => match r with | 9 => zrt 63 | 10 => fun _ => 23 | 12 => z4 1 0 0 0 | 13 => zti 95 | _ => fun _ => 0
theorem tix_lt : ∀ r, r < 16 → r ≠ 2 → r ≠ 4 → tix r < 14 := by decide
theorem tix_c (z : Nat) (h1 : z < 16) (h2 : z ≠ 2) (h4 : z ≠ 4) : (z ≤ 1 ∧ tix z = z) ∨ (z = 3 ∧ tix z = 2) ∨ (5 ≤ z ∧ tix z = z - 2) := by
  unfold tix
  by_cases c1 : z ≤ 1
  · exact Or.inl ⟨c1, if_pos c1⟩
  · by_cases c3 : z = 3
    · exact Or.inr (Or.inl ⟨c3, (if_neg c1).trans (if_pos c3)⟩)
    · exact Or.inr (Or.inr ⟨by omega, (if_neg c1).trans (if_neg c3)⟩)
theorem tix_inj (r : Nat) (a1 : r < 16) (a2 : r ≠ 2) (a3 : r ≠ 4) (q : Nat) (b1 : q < 16) (b2 : q ≠ 2) (b3 : q ≠ 4) (e : tix r = tix q) : r = q := by
  have := tix_c r a1 a2 a3
  have := tix_c q b1 b2 b3
  omega
theorem zT.init {d : zD} {h : Nat} {G0 G : zG} {L : List (Nat × va_E)} (hL : zLs h G0 L G) (hl : L.length = 13) (h0 : ∀ r, r < 16 → r ≠ 2 → r ≠ 4 → G (zad h L (tix r)) = some (tcell d (fun q => zad h L (tix q)) (fun _ => 0) 0 0 r (tV0 r))) : zT d (fun q => zad h L (tix q)) (fun _ => 0) tV0 0 0 G := by
  have hz : ∀ r, tlive 0 0 r → r < 16 ∧ r ≠ 2 ∧ r ≠ 4 := fun r hr => by unfold tlive at hr; omega
  refine ⟨⟨fun r q hr hq e => ?_, fun r hr => ?_⟩, by decide, by decide, ⟨0, by decide, rfl⟩, ⟨0, by decide, rfl⟩, fun i hi => absurd hi (Nat.not_lt_zero _), fun i hi => absurd hi (Nat.not_lt_zero _)⟩
  · obtain ⟨a1, a2, a3⟩ := hz r hr
    obtain ⟨b1, b2, b3⟩ := hz q hq
    exact tix_inj r a1 a2 a3 q b1 b2 b3 (hL.inj (by rw [hl]; exact tix_lt r a1 a2 a3) (by rw [hl]; exact tix_lt q b1 b2 b3) e)
  · obtain ⟨a1, a2, a3⟩ := hz r hr
    exact h0 r a1 a2 a3

theorem d_Tb_init_0 : decode c_Tb_init 0 = .ok (.aload_n 0, 1) := by decide +kernel
theorem d_Tb_init_1 : decode c_Tb_init 1 = .ok (.invokespecial 1, 3) := by decide +kernel
theorem d_Tb_init_4 : decode c_Tb_init 4 = .ok (.aload_n 0, 1) := by decide +kernel
theorem d_Tb_init_5 : decode c_Tb_init 5 = .ok (.new 7, 3) := by decide +kernel
theorem d_Tb_init_8 : decode c_Tb_init 8 = .ok (.dup, 1) := by decide +kernel
theorem d_Tb_init_9 : decode c_Tb_init 9 = .ok (.invokespecial 9, 3) := by decide +kernel
theorem d_Tb_init_12 : decode c_Tb_init 12 = .ok (.putfield 10, 3) := by decide +kernel
theorem d_Tb_init_15 : decode c_Tb_init 15 = .ok (.aload_n 0, 1) := by decide +kernel
theorem d_Tb_init_16 : decode c_Tb_init 16 = .ok (.new 7, 3) := by decide +kernel
theorem d_Tb_init_19 : decode c_Tb_init 19 = .ok (.dup, 1) := by decide +kernel
theorem d_Tb_init_20 : decode c_Tb_init 20 = .ok (.invokespecial 9, 3) := by decide +kernel
theorem d_Tb_init_23 : decode c_Tb_init 23 = .ok (.putfield 16, 3) := by decide +kernel
theorem d_Tb_init_26 : decode c_Tb_init 26 = .ok (.aload_n 0, 1) := by decide +kernel
theorem d_Tb_init_27 : decode c_Tb_init 27 = .ok (.new 19, 3) := by decide +kernel
theorem d_Tb_init_30 : decode c_Tb_init 30 = .ok (.dup, 1) := by decide +kernel
theorem d_Tb_init_31 : decode c_Tb_init 31 = .ok (.invokespecial 21, 3) := by decide +kernel
theorem d_Tb_init_34 : decode c_Tb_init 34 = .ok (.putfield 22, 3) := by decide +kernel
theorem d_Tb_init_37 : decode c_Tb_init 37 = .ok (.aload_n 0, 1) := by decide +kernel
theorem d_Tb_init_38 : decode c_Tb_init 38 = .ok (.new 26, 3) := by decide +kernel
theorem d_Tb_init_41 : decode c_Tb_init 41 = .ok (.dup, 1) := by decide +kernel
theorem d_Tb_init_42 : decode c_Tb_init 42 = .ok (.invokespecial 28, 3) := by decide +kernel
theorem d_Tb_init_45 : decode c_Tb_init 45 = .ok (.putfield 29, 3) := by decide +kernel
theorem d_Tb_init_48 : decode c_Tb_init 48 = .ok (.aload_n 0, 1) := by decide +kernel
theorem d_Tb_init_49 : decode c_Tb_init 49 = .ok (.new 33, 3) := by decide +kernel
theorem d_Tb_init_52 : decode c_Tb_init 52 = .ok (.dup, 1) := by decide +kernel
theorem d_Tb_init_53 : decode c_Tb_init 53 = .ok (.invokespecial 35, 3) := by decide +kernel
theorem d_Tb_init_56 : decode c_Tb_init 56 = .ok (.putfield 36, 3) := by decide +kernel
theorem d_Tb_init_59 : decode c_Tb_init 59 = .ok (.aload_n 0, 1) := by decide +kernel
theorem d_Tb_init_60 : decode c_Tb_init 60 = .ok (.bipush 9, 2) := by decide +kernel
theorem d_Tb_init_62 : decode c_Tb_init 62 = .ok (.newarray .double, 2) := by decide +kernel
theorem d_Tb_init_64 : decode c_Tb_init 64 = .ok (.putfield 40, 3) := by decide +kernel
theorem d_Tb_init_67 : decode c_Tb_init 67 = .ok (.aload_n 0, 1) := by decide +kernel
theorem d_Tb_init_68 : decode c_Tb_init 68 = .ok (.iconst 0, 1) := by decide +kernel
theorem d_Tb_init_69 : decode c_Tb_init 69 = .ok (.putfield 44, 3) := by decide +kernel
theorem d_Tb_init_72 : decode c_Tb_init 72 = .ok (.aload_n 0, 1) := by decide +kernel
theorem d_Tb_init_73 : decode c_Tb_init 73 = .ok (.iconst 0, 1) := by decide +kernel
theorem d_Tb_init_74 : decode c_Tb_init 74 = .ok (.putfield 48, 3) := by decide +kernel
theorem d_Tb_init_77 : decode c_Tb_init 77 = .ok (.aload_n 0, 1) := by decide +kernel
theorem d_Tb_init_78 : decode c_Tb_init 78 = .ok (.iconst 0, 1) := by decide +kernel
theorem d_Tb_init_79 : decode c_Tb_init 79 = .ok (.putfield 51, 3) := by decide +kernel
theorem d_Tb_init_82 : decode c_Tb_init 82 = .ok (.aload_n 0, 1) := by decide +kernel
theorem d_Tb_init_83 : decode c_Tb_init 83 = .ok (.iconst 0, 1) := by decide +kernel
theorem d_Tb_init_84 : decode c_Tb_init 84 = .ok (.putfield 54, 3) := by decide +kernel
theorem d_Tb_init_87 : decode c_Tb_init 87 = .ok (.return_, 1) := by decide +kernel
set_option maxHeartbeats 4000000 in
set_option maxRecDepth 100000 in
theorem m_Tb_init {g0 : State} {d : zD} {l : Launch} {a0 : Array Value} (hs0 : zS0 d a0 g0) (hst : l.stackTraces = false) {G : zG} {h : Nat} (hG_T0 : G h = some (zob 8 [.null, .null, .null, .null, .null, .null, .int 0, .int 0, .int 0, .int 0])) : zMet g0 d l y_Tb_init c_Tb_init 1 ((Option.none : Option Jvm.ClassFile.FieldType)) 4 13 460 [.ref h] (G) (fun r G1 => r = none ∧ ∃ A D, A 0 = h ∧ zT d A D tV0 0 0 G1 ∧ (∀ r, tlive 0 0 r → A r = h ∨ G (A r) = none) ∧ ∀ q v, G q = some v → q ≠ h → G1 q = some v) (zNo) := by
  have hTb := hG_T0
  have hL : zLs h G [] G := zLs.nil
  refine z_entry hs0 hst (by decide) (Nat.le_of_ble_eq_true rfl) (fun p e s m args below meth c => ?_)
  refine z_aload_n 0 d_Tb_init_0 rfl rfl ?_
  refine z_objInit qM_Tb_1 qI_Oj_init_0566 qC_Oj_init_0566 d_Tb_init_1 (by decide) ⟨by decide, by decide⟩ ?_
  refine z_aload_n 0 d_Tb_init_4 rfl rfl ?_
  refine z_new (fs := [.int 0, .null, .int 0]) zc_AL qK_Tb_7 qO_AL qN_AL (by decide) ⟨by decide, by decide⟩ d_Tb_init_5 (fun a1 hn_a1 hb_a1 => ?_)
  refine z_dup d_Tb_init_8 rfl ?_
  refine z_callIp0 (m_AL_init hs0 hst zu_s) ym_AL_init rfl qM_Tb_9 qI_AL_init d_Tb_init_9 rfl (Nat.le_of_ble_eq_true rfl) ⟨by decide, by decide⟩ ⟨Nat.le_of_ble_eq_true rfl, Nat.le_of_ble_eq_true rfl⟩ (fun r_9 G_9 hp_9 => ?_)
  obtain ⟨hr_9, hg_9⟩ := hp_9
  obtain rfl : r_9 = none := hr_9
  rw [zu_zu] at hg_9
  have hL := hg_9 ▸ hL.push (w := zob 2 [.int 0, .ref d.2.2, .int 0]) hTb hn_a1
  have hTb : G_9 h = some (zob 8 [.null, .null, .null, .null, .null, .null, .int 0, .int 0, .int 0, .int 0]) := by rw [hg_9]; exact (zu_n (ne_of_none hTb hn_a1)).trans hTb
  refine z_putF zc_Tb 0 (by decide) qF_Tb_10 hTb rfl rfl rfl rfl rfl (Nat.le_of_ble_eq_true rfl) d_Tb_init_12 ?_
  have hL := hL.seth (w := zob 8 [.ref a1, .null, .null, .null, .null, .null, .int 0, .int 0, .int 0, .int 0])
  have hTb : zu G_9 h (zob 8 [.ref a1, .null, .null, .null, .null, .null, .int 0, .int 0, .int 0, .int 0]) h = some (zob 8 [.ref a1, .null, .null, .null, .null, .null, .int 0, .int 0, .int 0, .int 0]) := zu_s
  refine z_aload_n 0 d_Tb_init_15 rfl rfl ?_
  refine z_new (fs := [.int 0, .null, .int 0]) zc_AL qK_Tb_7 qO_AL qN_AL (by decide) ⟨by decide, by decide⟩ d_Tb_init_16 (fun a3 hn_a3 hb_a3 => ?_)
  refine z_dup d_Tb_init_19 rfl ?_
  refine z_callIp0 (m_AL_init hs0 hst zu_s) ym_AL_init rfl qM_Tb_9 qI_AL_init d_Tb_init_20 rfl (Nat.le_of_ble_eq_true rfl) ⟨by decide, by decide⟩ ⟨Nat.le_of_ble_eq_true rfl, Nat.le_of_ble_eq_true rfl⟩ (fun r_20 G_20 hp_20 => ?_)
  obtain ⟨hr_20, hg_20⟩ := hp_20
  obtain rfl : r_20 = none := hr_20
  rw [zu_zu] at hg_20
  have hL := hg_20 ▸ hL.push (w := zob 2 [.int 0, .ref d.2.2, .int 0]) hTb hn_a3
  have hTb : G_20 h = some (zob 8 [.ref a1, .null, .null, .null, .null, .null, .int 0, .int 0, .int 0, .int 0]) := by rw [hg_20]; exact (zu_n (ne_of_none hTb hn_a3)).trans hTb
  refine z_putF zc_Tb 1 (by decide) qF_Tb_16 hTb rfl rfl rfl rfl rfl (Nat.le_of_ble_eq_true rfl) d_Tb_init_23 ?_
  have hL := hL.seth (w := zob 8 [.ref a1, .ref a3, .null, .null, .null, .null, .int 0, .int 0, .int 0, .int 0])
  have hTb : zu G_20 h (zob 8 [.ref a1, .ref a3, .null, .null, .null, .null, .int 0, .int 0, .int 0, .int 0]) h = some (zob 8 [.ref a1, .ref a3, .null, .null, .null, .null, .int 0, .int 0, .int 0, .int 0]) := zu_s
  refine z_aload_n 0 d_Tb_init_26 rfl rfl ?_
  refine z_new (fs := [.null, .null, .null, .null, .int 0]) zc_Re qK_Tb_19 qO_Re qN_Re (by decide) ⟨by decide, by decide⟩ d_Tb_init_27 (fun a5 hn_a5 hb_a5 => ?_)
  refine z_dup d_Tb_init_30 rfl ?_
  refine z_callIp1 (m_Re_init hs0 hst zu_s) ym_Re_init rfl qM_Tb_21 qI_Re_init d_Tb_init_31 rfl (Nat.le_of_ble_eq_true rfl) ⟨by decide, by decide⟩ ⟨Nat.le_of_ble_eq_true rfl, Nat.le_of_ble_eq_true rfl⟩ (fun r_31 G_31 hp_31 => ?_)
  obtain ⟨hr_31, rk, rs, rd, rt, ⟨q1, q2, q3, q4⟩, ⟨b1, b2, b3, b4⟩, ⟨m1, m2, m3, m4⟩, ⟨n1, n2, n3, n4, n5, n6⟩, hg_31⟩ := hp_31
  obtain rfl : r_31 = none := hr_31
  rw [zu_zu] at hg_31
  rw [zu_n m1.symm] at q1
  rw [zu_n m2.symm] at q2
  rw [zu_n m3.symm] at q3
  rw [zu_n m4.symm] at q4
  have hL5 := hL.push (w := zob 6 [.ref rk, .ref rs, .ref rd, .ref rt, .int 0]) hTb hn_a5
  have hT5 := (zu_n (v := zob 6 [.ref rk, .ref rs, .ref rd, .ref rt, .int 0]) (ne_of_none hTb hn_a5)).trans hTb
  have hL6 := hL5.push (w := zI d 64 (fun _ => 0)) hT5 ((zu_n m1.symm).trans q1)
  have hT6 := (zu_n (v := zI d 64 (fun _ => 0)) (ne_of_none hT5 ((zu_n m1.symm).trans q1))).trans hT5
  have hL7 := hL6.push (w := zI d 64 (fun _ => 0)) hT6 ((zu_n n1.symm).trans ((zu_n m2.symm).trans q2))
  have hT7 := (zu_n (v := zI d 64 (fun _ => 0)) (ne_of_none hT6 ((zu_n n1.symm).trans ((zu_n m2.symm).trans q2)))).trans hT6
  have hL8 := hL7.push (w := zI d 64 (fun _ => 0)) hT7 ((zu_n n4.symm).trans ((zu_n n2.symm).trans ((zu_n m3.symm).trans q3)))
  have hT8 := (zu_n (v := zI d 64 (fun _ => 0)) (ne_of_none hT7 ((zu_n n4.symm).trans ((zu_n n2.symm).trans ((zu_n m3.symm).trans q3))))).trans hT7
  have hL9 := hL8.push (w := zI d 128 (zrt 63)) hT8 ((zu_n n6.symm).trans ((zu_n n5.symm).trans ((zu_n n3.symm).trans ((zu_n m4.symm).trans q4))))
  have hT9 := (zu_n (v := zI d 128 (zrt 63)) (ne_of_none hT8 ((zu_n n6.symm).trans ((zu_n n5.symm).trans ((zu_n n3.symm).trans ((zu_n m4.symm).trans q4)))))).trans hT8
  have hL := hg_31 ▸ hL9
  have hTb : G_31 h = some (zob 8 [.ref a1, .ref a3, .null, .null, .null, .null, .int 0, .int 0, .int 0, .int 0]) := by rw [hg_31]; exact hT9
  refine z_putF zc_Tb 2 (by decide) qF_Tb_22 hTb rfl rfl rfl rfl rfl (Nat.le_of_ble_eq_true rfl) d_Tb_init_34 ?_
  have hL := hL.seth (w := zob 8 [.ref a1, .ref a3, .ref a5, .null, .null, .null, .int 0, .int 0, .int 0, .int 0])
  have hTb : zu G_31 h (zob 8 [.ref a1, .ref a3, .ref a5, .null, .null, .null, .int 0, .int 0, .int 0, .int 0]) h = some (zob 8 [.ref a1, .ref a3, .ref a5, .null, .null, .null, .int 0, .int 0, .int 0, .int 0]) := zu_s
  refine z_aload_n 0 d_Tb_init_37 rfl rfl ?_
  refine z_new (fs := [.null, .int 0]) zc_Cu qK_Tb_26 qO_Cu qN_Cu (by decide) ⟨by decide, by decide⟩ d_Tb_init_38 (fun a10 hn_a10 hb_a10 => ?_)
  refine z_dup d_Tb_init_41 rfl ?_
  refine z_callIp1 (m_Cu_init hs0 hst zu_s) ym_Cu_init rfl qM_Tb_28 qI_Cu_init d_Tb_init_42 rfl (Nat.le_of_ble_eq_true rfl) ⟨by decide, by decide⟩ ⟨Nat.le_of_ble_eq_true rfl, Nat.le_of_ble_eq_true rfl⟩ (fun r_42 G_42 hp_42 => ?_)
  obtain ⟨hr_42, hn, q1, b1, m1, hg_42⟩ := hp_42
  obtain rfl : r_42 = none := hr_42
  rw [zu_zu] at hg_42
  rw [zu_n m1.symm] at q1
  have hL5 := hL.push (w := zob 3 [.ref hn, .int 23]) hTb hn_a10
  have hT5 := (zu_n (v := zob 3 [.ref hn, .int 23]) (ne_of_none hTb hn_a10)).trans hTb
  have hL6 := hL5.push (w := zI d 4 (fun _ => 0)) hT5 ((zu_n m1.symm).trans q1)
  have hT6 := (zu_n (v := zI d 4 (fun _ => 0)) (ne_of_none hT5 ((zu_n m1.symm).trans q1))).trans hT5
  have hL := hg_42 ▸ hL6
  have hTb : G_42 h = some (zob 8 [.ref a1, .ref a3, .ref a5, .null, .null, .null, .int 0, .int 0, .int 0, .int 0]) := by rw [hg_42]; exact hT6
  refine z_putF zc_Tb 3 (by decide) qF_Tb_29 hTb rfl rfl rfl rfl rfl (Nat.le_of_ble_eq_true rfl) d_Tb_init_45 ?_
  have hL := hL.seth (w := zob 8 [.ref a1, .ref a3, .ref a5, .ref a10, .null, .null, .int 0, .int 0, .int 0, .int 0])
  have hTb : zu G_42 h (zob 8 [.ref a1, .ref a3, .ref a5, .ref a10, .null, .null, .int 0, .int 0, .int 0, .int 0]) h = some (zob 8 [.ref a1, .ref a3, .ref a5, .ref a10, .null, .null, .int 0, .int 0, .int 0, .int 0]) := zu_s
  refine z_aload_n 0 d_Tb_init_48 rfl rfl ?_
  refine z_new (fs := [.null, .null, .int 0, .int 0, .int 0, .int 0]) zc_Gr qK_Tb_33 qO_Gr qN_Gr (by decide) ⟨by decide, by decide⟩ d_Tb_init_49 (fun a12 hn_a12 hb_a12 => ?_)
  refine z_dup d_Tb_init_52 rfl ?_
  refine z_callIp1 (m_Gr_init hs0 hst zu_s) ym_Gr_init rfl qM_Tb_35 qI_Gr_init d_Tb_init_53 rfl (Nat.le_of_ble_eq_true rfl) ⟨by decide, by decide⟩ ⟨Nat.le_of_ble_eq_true rfl, Nat.le_of_ble_eq_true rfl⟩ (fun r_53 G_53 hp_53 => ?_)
  obtain ⟨hr_53, hi, hg, q1, q2, b1, b2, m1, m2, n1, hg_53⟩ := hp_53
  obtain rfl : r_53 = none := hr_53
  rw [zu_zu] at hg_53
  rw [zu_n m1.symm] at q1
  rw [zu_n m2.symm] at q2
  have hL5 := hL.push (w := zob 4 [.ref hi, .ref hg, .int 1, .int 0, .int 0, .int 0]) hTb hn_a12
  have hT5 := (zu_n (v := zob 4 [.ref hi, .ref hg, .int 1, .int 0, .int 0, .int 0]) (ne_of_none hTb hn_a12)).trans hTb
  have hL6 := hL5.push (w := zI d 97 (zti 95)) hT5 ((zu_n m1.symm).trans q1)
  have hT6 := (zu_n (v := zI d 97 (zti 95)) (ne_of_none hT5 ((zu_n m1.symm).trans q1))).trans hT5
  have hL7 := hL6.push (w := zI d 9 (fun _ => 0)) hT6 ((zu_n n1.symm).trans ((zu_n m2.symm).trans q2))
  have hT7 := (zu_n (v := zI d 9 (fun _ => 0)) (ne_of_none hT6 ((zu_n n1.symm).trans ((zu_n m2.symm).trans q2)))).trans hT6
  have hL := hg_53 ▸ hL7
  have hTb : G_53 h = some (zob 8 [.ref a1, .ref a3, .ref a5, .ref a10, .null, .null, .int 0, .int 0, .int 0, .int 0]) := by rw [hg_53]; exact hT7
  refine z_putF zc_Tb 4 (by decide) qF_Tb_36 hTb rfl rfl rfl rfl rfl (Nat.le_of_ble_eq_true rfl) d_Tb_init_56 ?_
  have hL := hL.seth (w := zob 8 [.ref a1, .ref a3, .ref a5, .ref a10, .ref a12, .null, .int 0, .int 0, .int 0, .int 0])
  have hTb : zu G_53 h (zob 8 [.ref a1, .ref a3, .ref a5, .ref a10, .ref a12, .null, .int 0, .int 0, .int 0, .int 0]) h = some (zob 8 [.ref a1, .ref a3, .ref a5, .ref a10, .ref a12, .null, .int 0, .int 0, .int 0, .int 0]) := zu_s
  refine z_aload_n 0 d_Tb_init_59 rfl rfl ?_
  refine z_bipush (v := 9) d_Tb_init_60 (by decide) ?_
  refine z_newaD 9 qA_double (by decide) rfl (by decide) ⟨by decide, by decide⟩ d_Tb_init_62 (fun a15 hn_a15 hb_a15 => ?_)
  have hL := hL.push (w := zDb d 9 (fun _ => 0)) hTb hn_a15
  have hTb := (zu_n (v := zDb d 9 (fun _ => 0)) (ne_of_none hTb hn_a15)).trans hTb
  refine z_putF zc_Tb 5 (by decide) qF_Tb_40 hTb rfl rfl rfl rfl rfl (Nat.le_of_ble_eq_true rfl) d_Tb_init_64 ?_
  have hTb := zu_s (G := zu (zu G_53 h (zob 8 [.ref a1, .ref a3, .ref a5, .ref a10, .ref a12, .null, .int 0, .int 0, .int 0, .int 0])) a15 (zDb d 9 (fun _ => 0))) (a := h) (v := zob 8 [.ref a1, .ref a3, .ref a5, .ref a10, .ref a12, .ref a15, .int 0, .int 0, .int 0, .int 0])
  have hL := hL.seth (w := zob 8 [.ref a1, .ref a3, .ref a5, .ref a10, .ref a12, .ref a15, .int 0, .int 0, .int 0, .int 0])
  refine z_aload_n 0 d_Tb_init_67 rfl rfl ?_
  refine z_iconst (v := 0) d_Tb_init_68 (by decide) ?_
  refine z_put zc_Tb 6 (by decide) qF_Tb_44 hTb rfl rfl rfl (Nat.le_of_ble_eq_true rfl) d_Tb_init_69 ?_
  rw [zu_zu]
  refine z_aload_n 0 d_Tb_init_72 rfl rfl ?_
  refine z_iconst (v := 0) d_Tb_init_73 (by decide) ?_
  refine z_put zc_Tb 7 (by decide) qF_Tb_48 hTb rfl rfl rfl (Nat.le_of_ble_eq_true rfl) d_Tb_init_74 ?_
  rw [zu_zu]
  refine z_aload_n 0 d_Tb_init_77 rfl rfl ?_
  refine z_iconst (v := 0) d_Tb_init_78 (by decide) ?_
  refine z_put zc_Tb 8 (by decide) qF_Tb_51 hTb rfl rfl rfl (Nat.le_of_ble_eq_true rfl) d_Tb_init_79 ?_
  rw [zu_zu]
  refine z_aload_n 0 d_Tb_init_82 rfl rfl ?_
  refine z_iconst (v := 0) d_Tb_init_83 (by decide) ?_
  refine z_put zc_Tb 9 (by decide) qF_Tb_54 hTb rfl rfl rfl (Nat.le_of_ble_eq_true rfl) d_Tb_init_84 ?_
  rw [zu_zu]
  exact z_vret rfl (by
      have hl : ∀ r, r < 16 → r ≠ 2 → r ≠ 4 → True := fun _ _ _ _ => trivial
      have hLf : zLs h G ([(a1, zob 2 [.int 0, .ref d.2.2, .int 0]), (a3, zob 2 [.int 0, .ref d.2.2, .int 0]), (a5, zob 6 [.ref rk, .ref rs, .ref rd, .ref rt, .int 0]), (rk, zI d 64 (fun _ => 0)), (rs, zI d 64 (fun _ => 0)), (rd, zI d 64 (fun _ => 0)), (rt, zI d 128 (zrt 63)), (a10, zob 3 [.ref hn, .int 23]), (hn, zI d 4 (fun _ => 0)), (a12, zob 4 [.ref hi, .ref hg, .int 1, .int 0, .int 0, .int 0]), (hi, zI d 97 (zti 95)), (hg, zI d 9 (fun _ => 0)), (a15, zDb d 9 (fun _ => 0))]) _ := hL
      refine ⟨rfl, _, _, rfl, zT.init hLf rfl ?_, ?_, hLf.2.2⟩
      · intro r h1 h2 h4
        match r, h1, h2, h4 with
        | 0, _, _, _ => exact hTb
        | 1, _, _, _ => exact (hLf.at (i := 0) rfl).1
        | 3, _, _, _ => exact (hLf.at (i := 1) rfl).1
        | 5, _, _, _ => exact (hLf.at (i := 2) rfl).1
        | 6, _, _, _ => exact (hLf.at (i := 3) rfl).1
        | 7, _, _, _ => exact (hLf.at (i := 4) rfl).1
        | 8, _, _, _ => exact (hLf.at (i := 5) rfl).1
        | 9, _, _, _ => exact (hLf.at (i := 6) rfl).1
        | 10, _, _, _ => exact (hLf.at (i := 7) rfl).1
        | 11, _, _, _ => exact (hLf.at (i := 8) rfl).1
        | 12, _, _, _ => exact (hLf.at (i := 9) rfl).1
        | 13, _, _, _ => exact (hLf.at (i := 10) rfl).1
        | 14, _, _, _ => exact (hLf.at (i := 11) rfl).1
        | 15, _, _, _ => exact (hLf.at (i := 12) rfl).1
        | r + 16, h1, _, _ => exact absurd h1 (by omega)
      · intro r hr
        have hr2 : r < 16 ∧ r ≠ 2 ∧ r ≠ 4 := by unfold tlive at hr; omega
        by_cases e : r = 0
        · subst e; exact Or.inl rfl
        · have h14 := tix_lt r hr2.1 hr2.2.1 hr2.2.2
          have h1 : 1 ≤ tix r := by unfold tix; split <;> (try split) <;> omega
          have := (hLf.at (i := tix r - 1) (List.getElem?_eq_getElem (show tix r - 1 < 13 by omega))).2
          rw [show tix r - 1 + 1 = tix r by omega] at this
          exact Or.inr this) (by first | decide | omega) (by first | decide | omega) d_Tb_init_87
