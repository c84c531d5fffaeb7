
section ZTN
variable {d : zD} {A : Nat → Nat} {D : Nat → UInt64} {V : Nat → Nat → Int32} {nk ns : Nat} {G G1 : zG}
theorem zT.draw (h : zT d A D V nk ns G) (fi od : Int32) : ∃ V', zT d A D V' nk ns (zcg d G (A 10) (A 11) (V 11) fi od (V 10 0) 4) ∧ zKo V V' ∧ tFr A nk ns G (zcg d G (A 10) (A 11) (V 11) fi od (V 10 0) 4) := by
  have h1 := h.put (tl_s 11) (zcvs (V 11) fi od (V 10 0) 4) rfl rfl (h.2.off (by decide) (by decide) (by decide))
  have h2 := h1.put (tl_s 10) (fun _ => zlkn od (V 10 0) 4) rfl rfl (h1.2.off (by decide) (by decide) (by decide))
  exact ⟨_, h2, (zKo.off (by decide)).tr (zKo.off (by decide)), (zT.frput (tl_s 11) rfl).tr (zT.frput (tl_s 10) rfl)⟩
/-- a cell beside the world -/
theorem zT.out (h : zT d A D V nk ns G) {a : Nat} {w : va_E} (ho : ∀ r, tlive nk ns r → A r ≠ a) : zT d A D V nk ns (zu G a w) := ⟨⟨h.1.1, fun r hr => (zu_n (ho r hr)).trans (h.1.2 r hr)⟩, h.2⟩
theorem zT.none (h : zT d A D V nk ns G) {a : Nat} (ha : G a = none) : ∀ r, tlive nk ns r → A r ≠ a := fun r hr e => by
  have := h.1.2 r hr
  rw [e, ha] at this
  cases this
/-- the world's addresses A' are old or new -/
def zNw (A A' : Nat → Nat) (nk ns nk' ns' : Nat) (G : zG) : Prop := A' 0 = A 0 ∧ ∀ r, tlive nk' ns' r → (∃ q, tlive nk ns q ∧ A' r = A q) ∨ G (A' r) = none
theorem tcell_A {A' : Nat → Nat} {nk' ns' r : Nat} {v : Nat → Int32} (h1 : r ≠ 1) (h2 : r ≠ 2) (h3 : r ≠ 3) (h4 : r ≠ 4) (hA : ∀ q, 1 ≤ q → q < 16 → q ≠ 2 → q ≠ 4 → A' q = A q) (hi : 200 ≤ r → r < 300 → A' (r + 100) = A (r + 100) ∧ A' (r + 200) = A (r + 200)) : tcell d A' D nk' ns' r v = tcell d A D nk ns r v := by
  unfold tcell
  split
  · split <;> first | rfl | contradiction | (simp only [hA 1 (by decide) (by decide) (by decide) (by decide), hA 3 (by decide) (by decide) (by decide) (by decide), hA 5 (by decide) (by decide) (by decide) (by decide), hA 6 (by decide) (by decide) (by decide) (by decide), hA 7 (by decide) (by decide) (by decide) (by decide), hA 8 (by decide) (by decide) (by decide) (by decide), hA 9 (by decide) (by decide) (by decide) (by decide), hA 10 (by decide) (by decide) (by decide) (by decide), hA 11 (by decide) (by decide) (by decide) (by decide), hA 12 (by decide) (by decide) (by decide) (by decide), hA 13 (by decide) (by decide) (by decide) (by decide), hA 14 (by decide) (by decide) (by decide) (by decide), hA 15 (by decide) (by decide) (by decide) (by decide)])
  · split
    · rfl
    · split
      · rename_i g1 g2 g3
        rw [(hi (by omega) g3).1, (hi (by omega) g3).2]
      · rfl
def zAk (A : Nat → Nat) (nk a b : Nat) : Nat → Nat := fun r => if r = 100 + nk then a else if r = 2 then b else A r
/-- a keeper more -/
theorem zT.newk (h : zT d A D V nk ns G) (hk : nk < 8) {a b : Nat} (w : Nat → Int32) (hw : w 0 = nI nk) (mc : Int32) (hc : G a = some (zob 5 [.int (w 0), .int (w 1), .int (w 2), .int (w 3), .int (w 4), .int (w 5)])) (ho : ∀ r, tlive nk ns r → A r ≠ a) (hb : nk = 0 → G b = Option.none) (hb2 : 0 < nk → b = A 2) {f : Nat → Option Nat} (hf : f = fun j => if j < nk + 1 then some (zAk A nk a b (100 + j)) else Option.none) :
    zT d (zAk A nk a b) D (rset (rset V (100 + nk) w) 1 (fun _ => mc)) (nk + 1) ns (zu (zu G b (zO d 10 f)) (A 1) (zob 2 [.int mc, .ref b, .int (nI (nk + 1))])) := by
  have hns : ns ≤ 6 := h.2.2.1
  have hba : b ≠ a := fun e => by
    rcases Nat.eq_zero_or_pos nk with h0 | h0
    · have := hb h0; rw [e, hc] at this; cases this
    · exact ho 2 (Or.inl ⟨by decide, fun _ => h0, fun e => absurd e (by decide)⟩) ((hb2 h0).symm.trans e)
  have hold : ∀ r, tlive (nk + 1) ns r → r ≠ 100 + nk → r ≠ 2 → tlive nk ns r := fun r hr h1 h2 => by unfold tlive at *; omega
  have hbr : ∀ r, tlive nk ns r → r ≠ 2 → A r ≠ b := fun r hr h2 e => by
    rcases Nat.eq_zero_or_pos nk with h0 | h0
    · exact h.none (hb h0) r hr e
    · exact h2 (h.1.1 r 2 hr (Or.inl ⟨by decide, fun _ => h0, fun e => absurd e (by decide)⟩) (e.trans (hb2 h0)))
  have e1 : ∀ r, r ≠ 100 + nk → r ≠ 2 → zAk A nk a b r = A r := fun r h1 h2 => (if_neg h1).trans (if_neg h2)
  have e2 : zAk A nk a b 2 = b := (if_neg (by omega)).trans (if_pos rfl)
  have e3 : zAk A nk a b (100 + nk) = a := if_pos rfl
  have h1b : A 1 ≠ b := hbr 1 (tl_s 1) (by decide)
  have h1a : A 1 ≠ a := ho 1 (tl_s 1)
  refine ⟨⟨fun r q hr hq e => ?_, fun r hr => ?_⟩, ?_⟩
  · by_cases r1 : r = 100 + nk
    · by_cases q1 : q = 100 + nk
      · omega
      · by_cases q2 : q = 2
        · subst q2; rw [r1, e3, e2] at e; exact absurd e.symm hba
        · rw [r1, e3, e1 q q1 q2] at e; exact absurd e.symm (ho q (hold q hq q1 q2))
    · by_cases r2 : r = 2
      · by_cases q1 : q = 100 + nk
        · subst r2; rw [q1, e3, e2] at e; exact absurd e hba
        · by_cases q2 : q = 2
          · omega
          · subst r2; rw [e2, e1 q q1 q2] at e; exact absurd e.symm (hbr q (hold q hq q1 q2) q2)
      · by_cases q1 : q = 100 + nk
        · rw [q1, e3, e1 r r1 r2] at e; exact absurd e (ho r (hold r hr r1 r2))
        · by_cases q2 : q = 2
          · subst q2; rw [e2, e1 r r1 r2] at e; exact absurd e (hbr r (hold r hr r1 r2) r2)
          · rw [e1 r r1 r2, e1 q q1 q2] at e; exact h.1.1 r q (hold r hr r1 r2) (hold q hq q1 q2) e
  · by_cases r1 : r = 100 + nk
    · subst r1
      rw [e3, zu_n h1a.symm, zu_n hba.symm, rset_n (by omega), rset_s, tcell_k hk]
      exact hc
    · by_cases r2 : r = 2
      · subst r2
        rw [e2, zu_n h1b.symm, zu_s, hf]
        rfl
      · by_cases r3 : r = 1
        · subst r3
          rw [e1 1 (by omega) (by decide), zu_s, rset_s]
          show _ = some (zob 2 [.int mc, .ref (if nk + 1 = 0 then d.2.2 else zAk A nk a b 2), .int (nI (nk + 1))])
          rw [if_neg (by omega), e2]
        · have hl := hold r hr r1 r2
          rw [e1 r r1 r2, zu_n (fun e => r3 (h.1.1 r 1 hl (tl_s 1) e)), zu_n (hbr r hl r2), rset_n r3, rset_n r1]
          refine (h.1.2 r hl).trans (congrArg some ?_)
          by_cases r4 : r = 3
          · subst r4
            show zob 2 [_, _, _] = zob 2 [_, .ref (if ns = 0 then d.2.2 else zAk A nk a b 4), _]
            rw [e1 4 (by omega) (by decide)]
          · by_cases r5 : r = 4
            · subst r5
              show zO d 10 _ = zO d 10 (fun j => if j < ns then some (zAk A nk a b (200 + j)) else Option.none)
              have : (fun j => if j < ns then some (zAk A nk a b (200 + j)) else Option.none) = (fun j => if j < ns then some (A (200 + j)) else Option.none) := funext fun j => by rw [e1 (200 + j) (by omega) (by omega)]
              rw [this]
            · exact (tcell_A r3 r2 r4 r5 (fun q q1 q2 q3 q4 => e1 q (by omega) q3) (fun g1 g2 => ⟨e1 _ (by omega) (by omega), e1 _ (by omega) (by omega)⟩)).symm
  · obtain ⟨i1, i2, i3, i4, i5, i6⟩ := h.2
    refine ⟨by omega, i2, by rw [rset_n (by omega), rset_n (by omega)]; exact i3, by rw [rset_n (by omega), rset_n (by omega)]; exact i4, fun q hq => by rw [rset_n (by omega), rset_n (by omega)]; exact i5 q hq, fun q hq => ?_⟩
    by_cases ek : q = nk
    · subst ek; rw [rset_n (by omega), rset_s, hw]
    · rw [rset_n (by omega), rset_n (by omega)]; exact i6 q (by omega)
theorem zNw.k {a b : Nat} (ha : G a = Option.none) (hb : nk = 0 → G b = Option.none) (hb2 : 0 < nk → b = A 2) (hk : nk < 8) : zNw A (zAk A nk a b) nk ns (nk + 1) ns G := by
  refine ⟨(if_neg (by omega)).trans (if_neg (by decide)), fun r hr => ?_⟩
  by_cases r1 : r = 100 + nk
  · subst r1; exact Or.inr (by rw [show zAk A nk a b (100 + nk) = a from if_pos rfl]; exact ha)
  · by_cases r2 : r = 2
    · subst r2
      rw [show zAk A nk a b 2 = b from (if_neg (by omega)).trans (if_pos rfl)]
      rcases Nat.eq_zero_or_pos nk with h0 | h0
      · exact Or.inr (hb h0)
      · exact Or.inl ⟨2, Or.inl ⟨by decide, fun _ => h0, fun e => absurd e (by decide)⟩, hb2 h0⟩
    · exact Or.inl ⟨r, by unfold tlive at *; omega, (if_neg r1).trans (if_neg r2)⟩
end ZTN


theorem zFr.new {A : Nat → Nat} {live : Nat → Prop} {G : zG} {a : Nat} {w : va_E} (ha : G a = none) : zFr A live G (zu G a w) := fun q v hq _ => by
  rw [zu_n (fun e => by rw [e, ha] at hq; cases hq)]; exact hq

theorem d_Tb_fresh_0 : decode c_Tb_fresh 0 = .ok (.aload_n 0, 1) := by decide +kernel
theorem d_Tb_fresh_1 : decode c_Tb_fresh 1 = .ok (.iload_n 1, 1) := by decide +kernel
theorem d_Tb_fresh_2 : decode c_Tb_fresh 2 = .ok (.invokevirtual 140, 3) := by decide +kernel
theorem d_Tb_fresh_5 : decode c_Tb_fresh 5 = .ok (.astore_n 3, 1) := by decide +kernel
theorem d_Tb_fresh_6 : decode c_Tb_fresh 6 = .ok (.aload_n 0, 1) := by decide +kernel
theorem d_Tb_fresh_7 : decode c_Tb_fresh 7 = .ok (.iload_n 2, 1) := by decide +kernel
theorem d_Tb_fresh_8 : decode c_Tb_fresh 8 = .ok (.invokevirtual 101, 3) := by decide +kernel
theorem d_Tb_fresh_11 : decode c_Tb_fresh 11 = .ok (.iload_n 2, 1) := by decide +kernel
theorem d_Tb_fresh_12 : decode c_Tb_fresh 12 = .ok (.aload_n 3, 1) := by decide +kernel
theorem d_Tb_fresh_13 : decode c_Tb_fresh 13 = .ok (.invokevirtual 144, 3) := by decide +kernel
theorem d_Tb_fresh_16 : decode c_Tb_fresh 16 = .ok (.iand, 1) := by decide +kernel
theorem d_Tb_fresh_17 : decode c_Tb_fresh 17 = .ok (.istore 4, 2) := by decide +kernel
theorem d_Tb_fresh_19 : decode c_Tb_fresh 19 = .ok (.iload 4, 2) := by decide +kernel
theorem d_Tb_fresh_21 : decode c_Tb_fresh 21 = .ok (.invokestatic 105, 3) := by decide +kernel
theorem d_Tb_fresh_24 : decode c_Tb_fresh 24 = .ok (.aload_n 3, 1) := by decide +kernel
theorem d_Tb_fresh_25 : decode c_Tb_fresh 25 = .ok (.getfield 147, 3) := by decide +kernel
theorem d_Tb_fresh_28 : decode c_Tb_fresh 28 = .ok (.if_icmp .ge 13, 3) := by decide +kernel
theorem d_Tb_fresh_31 : decode c_Tb_fresh 31 = .ok (.new 72, 3) := by decide +kernel
theorem d_Tb_fresh_34 : decode c_Tb_fresh 34 = .ok (.dup, 1) := by decide +kernel
theorem d_Tb_fresh_35 : decode c_Tb_fresh 35 = .ok (.ldc 150, 2) := by decide +kernel
theorem d_Tb_fresh_37 : decode c_Tb_fresh 37 = .ok (.invokespecial 76, 3) := by decide +kernel
theorem d_Tb_fresh_40 : decode c_Tb_fresh 40 = .ok (.athrow, 1) := by decide +kernel
theorem d_Tb_fresh_41 : decode c_Tb_fresh 41 = .ok (.aload_n 0, 1) := by decide +kernel
theorem d_Tb_fresh_42 : decode c_Tb_fresh 42 = .ok (.getfield 29, 3) := by decide +kernel
theorem d_Tb_fresh_45 : decode c_Tb_fresh 45 = .ok (.iconst 0, 1) := by decide +kernel
theorem d_Tb_fresh_46 : decode c_Tb_fresh 46 = .ok (.aload_n 3, 1) := by decide +kernel
theorem d_Tb_fresh_47 : decode c_Tb_fresh 47 = .ok (.getfield 147, 3) := by decide +kernel
theorem d_Tb_fresh_50 : decode c_Tb_fresh 50 = .ok (.invokevirtual 120, 3) := by decide +kernel
theorem d_Tb_fresh_53 : decode c_Tb_fresh 53 = .ok (.aload_n 3, 1) := by decide +kernel
theorem d_Tb_fresh_54 : decode c_Tb_fresh 54 = .ok (.dup, 1) := by decide +kernel
theorem d_Tb_fresh_55 : decode c_Tb_fresh 55 = .ok (.getfield 152, 3) := by decide +kernel
theorem d_Tb_fresh_58 : decode c_Tb_fresh 58 = .ok (.iconst 1, 1) := by decide +kernel
theorem d_Tb_fresh_59 : decode c_Tb_fresh 59 = .ok (.iadd, 1) := by decide +kernel
theorem d_Tb_fresh_60 : decode c_Tb_fresh 60 = .ok (.putfield 152, 3) := by decide +kernel
theorem d_Tb_fresh_63 : decode c_Tb_fresh 63 = .ok (.iconst 0, 1) := by decide +kernel
theorem d_Tb_fresh_64 : decode c_Tb_fresh 64 = .ok (.istore 5, 2) := by decide +kernel
theorem d_Tb_fresh_66 : decode c_Tb_fresh 66 = .ok (.iload 5, 2) := by decide +kernel
theorem d_Tb_fresh_68 : decode c_Tb_fresh 68 = .ok (.bipush 8, 2) := by decide +kernel
theorem d_Tb_fresh_70 : decode c_Tb_fresh 70 = .ok (.if_icmp .ge 47, 3) := by decide +kernel
theorem d_Tb_fresh_73 : decode c_Tb_fresh 73 = .ok (.iload 4, 2) := by decide +kernel
theorem d_Tb_fresh_75 : decode c_Tb_fresh 75 = .ok (.iload 5, 2) := by decide +kernel
theorem d_Tb_fresh_77 : decode c_Tb_fresh 77 = .ok (.invokestatic 124, 3) := by decide +kernel
theorem d_Tb_fresh_80 : decode c_Tb_fresh 80 = .ok (.ifCond .eq 31, 3) := by decide +kernel
theorem d_Tb_fresh_83 : decode c_Tb_fresh 83 = .ok (.aload_n 3, 1) := by decide +kernel
theorem d_Tb_fresh_84 : decode c_Tb_fresh 84 = .ok (.iload 5, 2) := by decide +kernel
theorem d_Tb_fresh_86 : decode c_Tb_fresh 86 = .ok (.aload_n 3, 1) := by decide +kernel
theorem d_Tb_fresh_87 : decode c_Tb_fresh 87 = .ok (.iload 5, 2) := by decide +kernel
theorem d_Tb_fresh_89 : decode c_Tb_fresh 89 = .ok (.invokevirtual 155, 3) := by decide +kernel
theorem d_Tb_fresh_92 : decode c_Tb_fresh 92 = .ok (.aload_n 0, 1) := by decide +kernel
theorem d_Tb_fresh_93 : decode c_Tb_fresh 93 = .ok (.getfield 29, 3) := by decide +kernel
theorem d_Tb_fresh_96 : decode c_Tb_fresh 96 = .ok (.iload 5, 2) := by decide +kernel
theorem d_Tb_fresh_98 : decode c_Tb_fresh 98 = .ok (.invokestatic 128, 3) := by decide +kernel
theorem d_Tb_fresh_101 : decode c_Tb_fresh 101 = .ok (.invokevirtual 131, 3) := by decide +kernel
theorem d_Tb_fresh_104 : decode c_Tb_fresh 104 = .ok (.iadd, 1) := by decide +kernel
theorem d_Tb_fresh_105 : decode c_Tb_fresh 105 = .ok (.bipush 97, 2) := by decide +kernel
theorem d_Tb_fresh_107 : decode c_Tb_fresh 107 = .ok (.irem, 1) := by decide +kernel
theorem d_Tb_fresh_108 : decode c_Tb_fresh 108 = .ok (.invokevirtual 134, 3) := by decide +kernel
theorem d_Tb_fresh_111 : decode c_Tb_fresh 111 = .ok (.iinc 5 1, 3) := by decide +kernel
theorem d_Tb_fresh_114 : decode c_Tb_fresh 114 = .ok (.goto (-48), 3) := by decide +kernel
theorem d_Tb_fresh_117 : decode c_Tb_fresh 117 = .ok (.aload_n 0, 1) := by decide +kernel
theorem d_Tb_fresh_118 : decode c_Tb_fresh 118 = .ok (.getfield 22, 3) := by decide +kernel
theorem d_Tb_fresh_121 : decode c_Tb_fresh 121 = .ok (.iconst 1, 1) := by decide +kernel
theorem d_Tb_fresh_122 : decode c_Tb_fresh 122 = .ok (.iload_n 1, 1) := by decide +kernel
theorem d_Tb_fresh_123 : decode c_Tb_fresh 123 = .ok (.aload_n 0, 1) := by decide +kernel
theorem d_Tb_fresh_124 : decode c_Tb_fresh 124 = .ok (.getfield 44, 3) := by decide +kernel
theorem d_Tb_fresh_127 : decode c_Tb_fresh 127 = .ok (.invokevirtual 137, 3) := by decide +kernel
theorem d_Tb_fresh_130 : decode c_Tb_fresh 130 = .ok (.aload_n 3, 1) := by decide +kernel
theorem d_Tb_fresh_131 : decode c_Tb_fresh 131 = .ok (.invokevirtual 158, 3) := by decide +kernel
theorem d_Tb_fresh_134 : decode c_Tb_fresh 134 = .ok (.invokestatic 105, 3) := by decide +kernel
theorem d_Tb_fresh_137 : decode c_Tb_fresh 137 = .ok (.ireturn, 1) := by decide +kernel
set_option maxHeartbeats 4000000 in
set_option maxRecDepth 100000 in
theorem m_Tb_fresh {g0 : State} {d : zD} {l : Launch} {a0 : Array Value} (hs0 : zS0 d a0 g0) (hst : l.stackTraces = false) {G : zG} {A : Nat → Nat} {D : Nat → UInt64} {V : Nat → Nat → Int32} {nk ns : Nat} (hT : zT d A D V nk ns G) (x set : Int32) : zMet g0 d l y_Tb_fresh c_Tb_fresh 6 ((Option.some Jvm.ClassFile.FieldType.int)) 12 3 18 [.ref (A 0), .int x, .int set] (G) (zTu d A nk ns V G zrI) (zTx d A nk ns V G ["java/lang/IllegalArgumentException", "java/lang/IndexOutOfBoundsException", "java/lang/IllegalStateException"]) := by
  have hG_Tb := hT.tb
  have hnk : nk ≤ 8 := hT.2.1
  have hns : ns ≤ 6 := hT.2.2.1
  refine z_entry hs0 hst (by decide) (Nat.le_of_ble_eq_true rfl) (fun p e s m args below meth c => ?_)
  refine z_aload_n 0 d_Tb_fresh_0 rfl rfl ?_
  refine z_iload_n 1 d_Tb_fresh_1 rfl rfl ?_
  refine z_callV (m_Tb_secretAt hs0 hst hT x) ym_Tb_secretAt qM_Tb_140 qI_Tb_secretAt qV_Tb_Tb_secretAt zc_Tb hG_Tb d_Tb_fresh_2 rfl (Nat.le_of_ble_eq_true rfl) ⟨by decide, by decide⟩ ⟨Nat.le_of_ble_eq_true rfl, Nat.le_of_ble_eq_true rfl⟩ ?_ ?_
  · exact fun E G9 hx => by
      obtain ⟨hx1, rfl, hx3⟩ := hx
      obtain rfl : G = G9 := hx3.symm
      exact z_out ⟨by simp, D, V, hT, zKo.rf, zFr.rf⟩ (by decide) (by decide)
  intro r_2 G_2 hp_2
  obtain ⟨si, hsi, rfl, rfl, hg_2⟩ := hp_2
  obtain rfl : G = G_2 := hg_2.symm
  refine z_astore_n (L' := [(3, _), (0, _), (1, _), (2, _)]) d_Tb_fresh_5 rfl (by decide) rfl ?_
  refine z_aload_n 1 d_Tb_fresh_6 rfl rfl ?_
  refine z_iload_n 3 d_Tb_fresh_7 rfl rfl ?_
  refine z_callV (m_Tb_needSet hs0 hst hT set) ym_Tb_needSet qM_Tb_101 qI_Tb_needSet qV_Tb_Tb_needSet zc_Tb hG_Tb d_Tb_fresh_8 rfl (Nat.le_of_ble_eq_true rfl) ⟨by decide, by decide⟩ ⟨Nat.le_of_ble_eq_true rfl, Nat.le_of_ble_eq_true rfl⟩ ?_ ?_
  · exact fun E G9 hx => by
      obtain ⟨hx1, rfl, hx3⟩ := hx
      obtain rfl : G = G9 := hx3.symm
      exact z_out ⟨by simp, D, V, hT, zKo.rf, zFr.rf⟩ (by decide) (by decide)
  intro r_8 G_8 hp_8
  obtain ⟨hs_8, hr_8, hg_8⟩ := hp_8
  obtain rfl : r_8 = none := hr_8
  obtain rfl : G = G_8 := hg_8.symm
  refine z_iload_n 3 d_Tb_fresh_11 rfl rfl ?_
  refine z_aload_n 0 d_Tb_fresh_12 rfl rfl ?_
  refine z_callV0 (m_Se_currentSet hs0 hst (hT.se hsi)) ym_Se_currentSet qM_Tb_144 qI_Se_currentSet qV_Se_Se_currentSet zc_Se (hT.se hsi).1 d_Tb_fresh_13 rfl (Nat.le_of_ble_eq_true rfl) ⟨by decide, by decide⟩ ⟨Nat.le_of_ble_eq_true rfl, Nat.le_of_ble_eq_true rfl⟩ ?_
  refine z_iand d_Tb_fresh_16 ?_
  generalize set &&& zset (zcur (V (400 + si)) (V (200 + si) 3)) 8 = cw
  refine z_istore (L' := [(4, _), (3, _), (0, _), (1, _), (2, _)]) d_Tb_fresh_17 (by decide) rfl ?_
  refine z_iload 0 d_Tb_fresh_19 rfl ?_
  refine z_callS0 (m_In_bitCount hs0 hst _) ym_In_bitCount qM_Tb_105 qS_In_bitCount d_Tb_fresh_21 rfl (Nat.le_of_ble_eq_true rfl) ⟨by decide, by decide⟩ ⟨Nat.le_of_ble_eq_true rfl, Nat.le_of_ble_eq_true rfl⟩ ?_
  refine z_aload_n 1 d_Tb_fresh_24 rfl rfl ?_
  refine z_get zc_Se 0 (by decide) qF_Tb_147 (hT.se hsi).1 rfl d_Tb_fresh_25 ?_
  refine z_icmp_ge 41 d_Tb_fresh_28 (by decide) (fun c_28 => ?_) (fun c_28 => ?_)
  · skip
    refine z_aload_n 2 d_Tb_fresh_41 rfl rfl ?_
    refine z_get zc_Tb 3 (by decide) qF_Tb_29 hG_Tb rfl d_Tb_fresh_42 ?_
    refine z_iconst (v := 0) d_Tb_fresh_45 (by decide) ?_
    refine z_aload_n 1 d_Tb_fresh_46 rfl rfl ?_
    refine z_get zc_Se 0 (by decide) qF_Tb_147 (hT.se hsi).1 rfl d_Tb_fresh_47 ?_
    refine z_callVp0 (m_Cu_draw hs0 hst hT.cu hT.cn 0 _) ym_Cu_draw qM_Tb_120 qI_Cu_draw qV_Cu_Cu_draw zc_Cu hT.cu d_Tb_fresh_50 rfl (Nat.le_of_ble_eq_true rfl) ⟨by decide, by decide⟩ ⟨Nat.le_of_ble_eq_true rfl, Nat.le_of_ble_eq_true rfl⟩ (fun r_50 G_50 hp_50 => ?_)
    obtain ⟨hr_50, hg_50⟩ := hp_50
    obtain rfl : r_50 = none := hr_50
    obtain ⟨V3, hT3, hK3, hF3⟩ := hT.draw 0 (V (200 + si) 0)
    rw [← hg_50] at hT3 hF3
    refine z_aload_n 1 d_Tb_fresh_53 rfl rfl ?_
    refine z_dup d_Tb_fresh_54 rfl ?_
    refine z_get zc_Se 5 (by decide) qF_Tb_152 (hT3.se hsi).1 rfl d_Tb_fresh_55 ?_
    refine z_iconst (v := 1) d_Tb_fresh_58 (by decide) ?_
    refine z_iadd d_Tb_fresh_59 ?_
    refine z_put zc_Se 5 (by decide) qF_Tb_152 (hT3.se hsi).1 rfl rfl rfl (Nat.le_of_ble_eq_true rfl) d_Tb_fresh_60 ?_
    obtain ⟨V4, hT4, hK4, hF4⟩ := hT3.putsk hsi (V3 (200 + si) 3 + 1) (V3 (200 + si) 5)
    refine z_iconst (v := (nI 0)) d_Tb_fresh_63 (by decide) ?_
    refine z_istore (L' := [(5, _), (4, _), (3, _), (0, _), (1, _), (2, _)]) d_Tb_fresh_64 (by decide) rfl ?_
    have key_66 : ∀ (n : Nat) (i : Nat) (G2 : zG) (D2 : Nat → UInt64) (V2 : Nat → Nat → Int32) , 8 - i < n → (i ≤ 8) → (zT d A D2 V2 nk ns G2) → (zKo V V2) → (tFr A nk ns G G2) → Z g0 d y_Tb_fresh c_Tb_fresh 6 ((Option.some Jvm.ClassFile.FieldType.int)) [] p l e (zR 12 3 18) s m args below meth c (vx_MQ below (zQc g0 d (zTu d A nk ns V G zrI)) (zXc g0 d (zTx d A nk ns V G ["java/lang/IllegalArgumentException", "java/lang/IndexOutOfBoundsException", "java/lang/IllegalStateException"])) args s 3 18 (zA g0)) 2 12 (G2) [(5, .int (nI i)), (4, .int cw), (3, .ref (A (200 + si))), (0, .ref (A 0)), (1, .int (nI si)), (2, .int set)] [] 66 := by
      intro n
      induction n with
      | zero => intro i G2 D2 V2  h0; exact absurd h0 (Nat.not_lt_zero _)
      | succ n ih_66 =>
        intro i G2 D2 V2  hm_66 hi hT2 hK2 hF2
        refine z_iload 0 d_Tb_fresh_66 rfl ?_
        refine z_bipush (v := (nI 8)) d_Tb_fresh_68 (by decide) ?_
        refine z_icmp_ge 117 d_Tb_fresh_70 (by decide) (fun c_70 => ?_) (fun c_70 => ?_)
        · skip
          refine z_aload_n 3 d_Tb_fresh_117 rfl rfl ?_
          refine z_get zc_Tb 2 (by decide) qF_Tb_22 hT2.tb rfl d_Tb_fresh_118 ?_
          refine z_iconst (v := 1) d_Tb_fresh_121 (by decide) ?_
          refine z_iload_n 4 d_Tb_fresh_122 rfl rfl ?_
          refine z_aload_n 3 d_Tb_fresh_123 rfl rfl ?_
          refine z_get zc_Tb 6 (by decide) qF_Tb_44 hT2.tb rfl d_Tb_fresh_124 ?_
          refine z_callVp0 (m_Re_enterT hs0 hst hT2 _ _ _) ym_Re_enter qM_Tb_137 qI_Re_enter qV_Re_Re_enter zc_Re hT2.re d_Tb_fresh_127 rfl (Nat.le_of_ble_eq_true rfl) ⟨by decide, by decide⟩ ⟨Nat.le_of_ble_eq_true rfl, Nat.le_of_ble_eq_true rfl⟩ (fun r_127 G_127 hp_127 => ?_)
          obtain ⟨hr_127, D5, V5, hT5, hK5, hF5⟩ := hp_127
          obtain rfl : r_127 = none := hr_127
          refine z_aload_n 2 d_Tb_fresh_130 rfl rfl ?_
          refine z_callV0 (m_Se_staleSet hs0 hst (hT5.se hsi)) ym_Se_staleSet qM_Tb_158 qI_Se_staleSet qV_Se_Se_staleSet zc_Se (hT5.se hsi).1 d_Tb_fresh_131 rfl (Nat.le_of_ble_eq_true rfl) ⟨by decide, by decide⟩ ⟨Nat.le_of_ble_eq_true rfl, Nat.le_of_ble_eq_true rfl⟩ ?_
          refine z_callS0 (m_In_bitCount hs0 hst _) ym_In_bitCount qM_Tb_105 qS_In_bitCount d_Tb_fresh_134 rfl (Nat.le_of_ble_eq_true rfl) ⟨by decide, by decide⟩ ⟨Nat.le_of_ble_eq_true rfl, Nat.le_of_ble_eq_true rfl⟩ ?_
          exact z_iret rfl (⟨⟨_, rfl⟩, _, _, hT5, hK2.tr hK5, hF2.tr hF5⟩) (by first | decide | omega) (by first | decide | omega) d_Tb_fresh_137
        · skip
          have hi6 : i < 8 := Nat.lt_of_not_le fun q => c_70 (nI_le (a := 8) (b := i) q (by omega))
          refine z_iload 1 d_Tb_fresh_73 rfl ?_
          refine z_iload 0 d_Tb_fresh_75 rfl ?_
          refine z_callS0 (m_Tb_isIn hs0 hst _ (nI i)) ym_Tb_isIn qM_Tb_124 qS_Tb_isIn d_Tb_fresh_77 rfl (Nat.le_of_ble_eq_true rfl) ⟨by decide, by decide⟩ ⟨Nat.le_of_ble_eq_true rfl, Nat.le_of_ble_eq_true rfl⟩ ?_
          refine z_if_eq 111 d_Tb_fresh_80 (by decide) (fun c_80 => ?_) (fun c_80 => ?_)
          · skip
            refine z_iinc (v := nI (i + 1)) (L' := [(5, _), (4, _), (3, _), (0, _), (1, _), (2, _)]) 0 d_Tb_fresh_111 rfl (nI_1 i) (by decide) rfl ?_
            refine z_goto 66 d_Tb_fresh_114 (by decide) ?_
            exact ih_66 (i + 1) _ _ _ (by omega) (by omega) (by first | exact hT3 | exact hT2) (by first | exact hK2.tr hK3 | exact hK2) (by first | exact hF2.tr hF3 | exact hF2)
          · skip
            refine z_aload_n 2 d_Tb_fresh_83 rfl rfl ?_
            refine z_iload 0 d_Tb_fresh_84 rfl ?_
            refine z_aload_n 2 d_Tb_fresh_86 rfl rfl ?_
            refine z_iload 0 d_Tb_fresh_87 rfl ?_
            refine z_callV0 (m_Se_shareOf hs0 hst (hT2.se hsi) hi6) ym_Se_shareOf qM_Tb_155 qI_Se_shareOf qV_Se_Se_shareOf zc_Se (hT2.se hsi).1 d_Tb_fresh_89 rfl (Nat.le_of_ble_eq_true rfl) ⟨by decide, by decide⟩ ⟨Nat.le_of_ble_eq_true rfl, Nat.le_of_ble_eq_true rfl⟩ ?_
            refine z_aload_n 3 d_Tb_fresh_92 rfl rfl ?_
            refine z_get zc_Tb 3 (by decide) qF_Tb_29 hT2.tb rfl d_Tb_fresh_93 ?_
            refine z_iload 0 d_Tb_fresh_96 rfl ?_
            refine z_callS0 (m_Tb_pointOf hs0 hst (nI i)) ym_Tb_pointOf qM_Tb_128 qS_Tb_pointOf d_Tb_fresh_98 rfl (Nat.le_of_ble_eq_true rfl) ⟨by decide, by decide⟩ ⟨Nat.le_of_ble_eq_true rfl, Nat.le_of_ble_eq_true rfl⟩ ?_
            refine z_callV0 (m_Cu_at hs0 hst hT2.cu hT2.cn _) ym_Cu_at qM_Tb_131 qI_Cu_at qV_Cu_Cu_at zc_Cu hT2.cu d_Tb_fresh_101 rfl (Nat.le_of_ble_eq_true rfl) ⟨by decide, by decide⟩ ⟨Nat.le_of_ble_eq_true rfl, Nat.le_of_ble_eq_true rfl⟩ ?_
            refine z_iadd d_Tb_fresh_104 ?_
            refine z_bipush (v := 97) d_Tb_fresh_105 (by decide) ?_
            refine z_irem d_Tb_fresh_107 (by decide) ?_
            refine z_callVp0 (m_Se_hold hs0 hst _ (hT2.se hsi) hi6) ym_Se_hold qM_Tb_134 qI_Se_hold qV_Se_Se_hold zc_Se (hT2.se hsi).1 d_Tb_fresh_108 rfl (Nat.le_of_ble_eq_true rfl) ⟨by decide, by decide⟩ ⟨Nat.le_of_ble_eq_true rfl, Nat.le_of_ble_eq_true rfl⟩ (fun r_108 G_108 hp_108 => ?_)
            obtain ⟨hr_108, hg_108⟩ := hp_108
            obtain rfl : r_108 = none := hr_108
            obtain ⟨V3, hT3, hK3, hF3⟩ := hT2.sec hsi (upd (V2 (300 + si)) i _) (upd (V2 (400 + si)) i (V2 (200 + si) 3))
            rw [← hg_108] at hT3 hF3
            refine z_iinc (v := nI (i + 1)) (L' := [(5, _), (4, _), (3, _), (0, _), (1, _), (2, _)]) 0 d_Tb_fresh_111 rfl (nI_1 i) (by decide) rfl ?_
            refine z_goto 66 d_Tb_fresh_114 (by decide) ?_
            exact ih_66 (i + 1) _ _ _ (by omega) (by omega) (by first | exact hT3 | exact hT2) (by first | exact hK2.tr hK3 | exact hK2) (by first | exact hF2.tr hF3 | exact hF2)
    exact key_66 (8 + 1) 0 _ _ _ (by omega) (by omega) hT4 (hK3.tr hK4) (hF3.tr hF4)
  · skip
    exact z_thS (names := ["java/lang/RuntimeException", "java/lang/Exception"]) (by decide) (by decide) qK_Tb_72 qN_ISE qR_Tb_150 th_76.1 th_76.2 d_Tb_fresh_31 d_Tb_fresh_34 d_Tb_fresh_35 d_Tb_fresh_37 d_Tb_fresh_40 (by decide) (Nat.le_of_ble_eq_true rfl) ⟨by decide, by decide⟩ (⟨by simp, D, V, hT, zKo.rf, zFr.rf⟩) (by decide) (by decide)

def z6k (a b c e : Int32) : Nat → Int32 | 0 => a | 1 => b | 2 => c | 3 => e | _ => 0
def zkok (x z w : Int32) : Bool := zin x 0 3 && (zin z 1 99 && zin w 0 100)
theorem va_up_0 {f : Nat → Option Nat} {A : Nat → Nat} {n a : Nat} (h : ∀ j, j < n → f j = some (A j)) (h2 : ∀ j, n ≤ j → f j = none) (hA : A n = a) : va_up f n (some a) = fun j => if j < n + 1 then some (A j) else none := by
  funext j
  unfold va_up
  by_cases e : j = n
  · subst e; rw [if_pos rfl, if_pos (by omega), hA]
  · rw [if_neg e]
    by_cases e2 : j < n
    · rw [if_pos (by omega), h j e2]
    · rw [if_neg (by omega), h2 j (by omega)]

theorem d_Tb_keeper_0 : decode c_Tb_keeper 0 = .ok (.iload_n 1, 1) := by decide +kernel
theorem d_Tb_keeper_1 : decode c_Tb_keeper 1 = .ok (.iconst 0, 1) := by decide +kernel
theorem d_Tb_keeper_2 : decode c_Tb_keeper 2 = .ok (.iconst 3, 1) := by decide +kernel
theorem d_Tb_keeper_3 : decode c_Tb_keeper 3 = .ok (.invokestatic 57, 3) := by decide +kernel
theorem d_Tb_keeper_6 : decode c_Tb_keeper 6 = .ok (.ifCond .eq 23, 3) := by decide +kernel
theorem d_Tb_keeper_9 : decode c_Tb_keeper 9 = .ok (.iload_n 2, 1) := by decide +kernel
theorem d_Tb_keeper_10 : decode c_Tb_keeper 10 = .ok (.iconst 1, 1) := by decide +kernel
theorem d_Tb_keeper_11 : decode c_Tb_keeper 11 = .ok (.bipush 99, 2) := by decide +kernel
theorem d_Tb_keeper_13 : decode c_Tb_keeper 13 = .ok (.invokestatic 57, 3) := by decide +kernel
theorem d_Tb_keeper_16 : decode c_Tb_keeper 16 = .ok (.ifCond .eq 13, 3) := by decide +kernel
theorem d_Tb_keeper_19 : decode c_Tb_keeper 19 = .ok (.iload_n 3, 1) := by decide +kernel
theorem d_Tb_keeper_20 : decode c_Tb_keeper 20 = .ok (.iconst 0, 1) := by decide +kernel
theorem d_Tb_keeper_21 : decode c_Tb_keeper 21 = .ok (.bipush 100, 2) := by decide +kernel
theorem d_Tb_keeper_23 : decode c_Tb_keeper 23 = .ok (.invokestatic 57, 3) := by decide +kernel
theorem d_Tb_keeper_26 : decode c_Tb_keeper 26 = .ok (.ifCond .ne 13, 3) := by decide +kernel
theorem d_Tb_keeper_29 : decode c_Tb_keeper 29 = .ok (.new 61, 3) := by decide +kernel
theorem d_Tb_keeper_32 : decode c_Tb_keeper 32 = .ok (.dup, 1) := by decide +kernel
theorem d_Tb_keeper_33 : decode c_Tb_keeper 33 = .ok (.ldc 63, 2) := by decide +kernel
theorem d_Tb_keeper_35 : decode c_Tb_keeper 35 = .ok (.invokespecial 65, 3) := by decide +kernel
theorem d_Tb_keeper_38 : decode c_Tb_keeper 38 = .ok (.athrow, 1) := by decide +kernel
theorem d_Tb_keeper_39 : decode c_Tb_keeper 39 = .ok (.aload_n 0, 1) := by decide +kernel
theorem d_Tb_keeper_40 : decode c_Tb_keeper 40 = .ok (.getfield 10, 3) := by decide +kernel
theorem d_Tb_keeper_43 : decode c_Tb_keeper 43 = .ok (.invokevirtual 68, 3) := by decide +kernel
theorem d_Tb_keeper_46 : decode c_Tb_keeper 46 = .ok (.bipush 8, 2) := by decide +kernel
theorem d_Tb_keeper_48 : decode c_Tb_keeper 48 = .ok (.if_icmp .lt 13, 3) := by decide +kernel
theorem d_Tb_keeper_51 : decode c_Tb_keeper 51 = .ok (.new 72, 3) := by decide +kernel
theorem d_Tb_keeper_54 : decode c_Tb_keeper 54 = .ok (.dup, 1) := by decide +kernel
theorem d_Tb_keeper_55 : decode c_Tb_keeper 55 = .ok (.ldc 74, 2) := by decide +kernel
theorem d_Tb_keeper_57 : decode c_Tb_keeper 57 = .ok (.invokespecial 76, 3) := by decide +kernel
theorem d_Tb_keeper_60 : decode c_Tb_keeper 60 = .ok (.athrow, 1) := by decide +kernel
theorem d_Tb_keeper_61 : decode c_Tb_keeper 61 = .ok (.aload_n 0, 1) := by decide +kernel
theorem d_Tb_keeper_62 : decode c_Tb_keeper 62 = .ok (.getfield 10, 3) := by decide +kernel
theorem d_Tb_keeper_65 : decode c_Tb_keeper 65 = .ok (.invokevirtual 68, 3) := by decide +kernel
theorem d_Tb_keeper_68 : decode c_Tb_keeper 68 = .ok (.istore 4, 2) := by decide +kernel
theorem d_Tb_keeper_70 : decode c_Tb_keeper 70 = .ok (.aload_n 0, 1) := by decide +kernel
theorem d_Tb_keeper_71 : decode c_Tb_keeper 71 = .ok (.getfield 10, 3) := by decide +kernel
theorem d_Tb_keeper_74 : decode c_Tb_keeper 74 = .ok (.new 77, 3) := by decide +kernel
theorem d_Tb_keeper_77 : decode c_Tb_keeper 77 = .ok (.dup, 1) := by decide +kernel
theorem d_Tb_keeper_78 : decode c_Tb_keeper 78 = .ok (.iload 4, 2) := by decide +kernel
theorem d_Tb_keeper_80 : decode c_Tb_keeper 80 = .ok (.iload_n 1, 1) := by decide +kernel
theorem d_Tb_keeper_81 : decode c_Tb_keeper 81 = .ok (.iload_n 2, 1) := by decide +kernel
theorem d_Tb_keeper_82 : decode c_Tb_keeper 82 = .ok (.iload_n 3, 1) := by decide +kernel
theorem d_Tb_keeper_83 : decode c_Tb_keeper 83 = .ok (.invokespecial 79, 3) := by decide +kernel
theorem d_Tb_keeper_86 : decode c_Tb_keeper 86 = .ok (.invokevirtual 82, 3) := by decide +kernel
theorem d_Tb_keeper_89 : decode c_Tb_keeper 89 = .ok (.pop, 1) := by decide +kernel
theorem d_Tb_keeper_90 : decode c_Tb_keeper 90 = .ok (.iload 4, 2) := by decide +kernel
theorem d_Tb_keeper_92 : decode c_Tb_keeper 92 = .ok (.ireturn, 1) := by decide +kernel
set_option maxHeartbeats 4000000 in
set_option maxRecDepth 100000 in
theorem m_Tb_keeper_a {g0 : State} {d : zD} {l : Launch} {a0 : Array Value} (hs0 : zS0 d a0 g0) (hst : l.stackTraces = false) {G : zG} {A : Nat → Nat} {D : Nat → UInt64} {V : Nat → Nat → Int32} {nk ns : Nat} (hT : zT d A D V nk ns G) (h0 : nk = 0) (x z w : Int32) : zMet g0 d l y_Tb_keeper c_Tb_keeper 5 ((Option.some Jvm.ClassFile.FieldType.int)) 11 2 92 [.ref (A 0), .int x, .int z, .int w] (G) (fun r G1 => zkok x z w = true ∧ nk < 8 ∧ r = some (.int (nI nk)) ∧ ∃ A', zNw A A' nk ns (nk + 1) ns G ∧ zT d A' D (rset (rset V (100 + nk) (z6k (nI nk) x z w)) 1 (fun _ => V 1 0 + 1)) (nk + 1) ns G1 ∧ tFr A nk ns G G1) (fun E G1 => G1 = G ∧ ((zkok x z w = false ∧ E = "java/lang/IllegalArgumentException") ∨ (zkok x z w = true ∧ nk = 8 ∧ E = "java/lang/IllegalStateException"))) := by
  have hG_Tb := hT.tb
  have hnk : nk ≤ 8 := hT.2.1
  have hns : ns ≤ 6 := hT.2.2.1
  refine z_entry hs0 hst (by decide) (Nat.le_of_ble_eq_true rfl) (fun p e s m args below meth c => ?_)
  refine z_iload_n 1 d_Tb_keeper_0 rfl rfl ?_
  refine z_iconst (v := 0) d_Tb_keeper_1 (by decide) ?_
  refine z_iconst (v := 3) d_Tb_keeper_2 (by decide) ?_
  refine z_callS0 (m_Tb_isFrom hs0 hst x 0 _) ym_Tb_isFrom qM_Tb_57 qS_Tb_isFrom d_Tb_keeper_3 rfl (Nat.le_of_ble_eq_true rfl) ⟨by decide, by decide⟩ ⟨Nat.le_of_ble_eq_true rfl, Nat.le_of_ble_eq_true rfl⟩ ?_
  refine z_if_eq 29 d_Tb_keeper_6 (by decide) (fun c_6 => ?_) (fun c_6 => ?_)
  · skip
    exact z_thS (names := ["java/lang/RuntimeException", "java/lang/Exception"]) (by decide) (by decide) qK_Tb_61 qN_IAE qR_Tb_63 th_65.1 th_65.2 d_Tb_keeper_29 d_Tb_keeper_32 d_Tb_keeper_33 d_Tb_keeper_35 d_Tb_keeper_38 (by decide) (Nat.le_of_ble_eq_true rfl) ⟨by decide, by decide⟩ (⟨rfl, Or.inl ⟨by unfold zkok; first | (rw [(zb_0 _).mp c_6]; rfl) | (rw [(zb_0 _).mp c_16, Bool.false_and, Bool.and_false]) | (rw [(zb_0 _).mp c_26, Bool.and_false, Bool.and_false]), rfl⟩⟩) (by decide) (by decide)
  · skip
    refine z_iload_n 2 d_Tb_keeper_9 rfl rfl ?_
    refine z_iconst (v := 1) d_Tb_keeper_10 (by decide) ?_
    refine z_bipush (v := 99) d_Tb_keeper_11 (by decide) ?_
    refine z_callS0 (m_Tb_isFrom hs0 hst z 1 _) ym_Tb_isFrom qM_Tb_57 qS_Tb_isFrom d_Tb_keeper_13 rfl (Nat.le_of_ble_eq_true rfl) ⟨by decide, by decide⟩ ⟨Nat.le_of_ble_eq_true rfl, Nat.le_of_ble_eq_true rfl⟩ ?_
    refine z_if_eq 29 d_Tb_keeper_16 (by decide) (fun c_16 => ?_) (fun c_16 => ?_)
    · skip
      exact z_thS (names := ["java/lang/RuntimeException", "java/lang/Exception"]) (by decide) (by decide) qK_Tb_61 qN_IAE qR_Tb_63 th_65.1 th_65.2 d_Tb_keeper_29 d_Tb_keeper_32 d_Tb_keeper_33 d_Tb_keeper_35 d_Tb_keeper_38 (by decide) (Nat.le_of_ble_eq_true rfl) ⟨by decide, by decide⟩ (⟨rfl, Or.inl ⟨by unfold zkok; first | (rw [(zb_0 _).mp c_6]; rfl) | (rw [(zb_0 _).mp c_16, Bool.false_and, Bool.and_false]) | (rw [(zb_0 _).mp c_26, Bool.and_false, Bool.and_false]), rfl⟩⟩) (by decide) (by decide)
    · skip
      refine z_iload_n 3 d_Tb_keeper_19 rfl rfl ?_
      refine z_iconst (v := 0) d_Tb_keeper_20 (by decide) ?_
      refine z_bipush (v := 100) d_Tb_keeper_21 (by decide) ?_
      refine z_callS0 (m_Tb_isFrom hs0 hst w 0 _) ym_Tb_isFrom qM_Tb_57 qS_Tb_isFrom d_Tb_keeper_23 rfl (Nat.le_of_ble_eq_true rfl) ⟨by decide, by decide⟩ ⟨Nat.le_of_ble_eq_true rfl, Nat.le_of_ble_eq_true rfl⟩ ?_
      refine z_if_ne 39 d_Tb_keeper_26 (by decide) (fun c_26 => ?_) (fun c_26 => ?_)
      · skip
        have hok : zkok x z w = true := by unfold zkok; rw [(zb_n0 _).mp c_6, (zb_n0 _).mp c_16, (zb_n0 _).mp c_26]; rfl
        refine z_aload_n 0 d_Tb_keeper_39 rfl rfl ?_
        refine z_get zc_Tb 0 (by decide) qF_Tb_10 hG_Tb rfl d_Tb_keeper_40 ?_
        refine z_callV0 (m_AL_size hs0 hst hT.kl) ym_AL_size qM_Tb_68 qI_AL_size qV_AL_AL_size zc_AL hT.kl d_Tb_keeper_43 rfl (Nat.le_of_ble_eq_true rfl) ⟨by decide, by decide⟩ ⟨Nat.le_of_ble_eq_true rfl, Nat.le_of_ble_eq_true rfl⟩ ?_
        refine z_bipush (v := (nI 8)) d_Tb_keeper_46 (by decide) ?_
        refine z_icmp_lt 61 d_Tb_keeper_48 (by decide) (fun c_48 => ?_) (fun c_48 => ?_)
        · skip
          refine z_aload_n 0 d_Tb_keeper_61 rfl rfl ?_
          refine z_get zc_Tb 0 (by decide) qF_Tb_10 hG_Tb rfl d_Tb_keeper_62 ?_
          refine z_callV0 (m_AL_size hs0 hst hT.kl) ym_AL_size qM_Tb_68 qI_AL_size qV_AL_AL_size zc_AL hT.kl d_Tb_keeper_65 rfl (Nat.le_of_ble_eq_true rfl) ⟨by decide, by decide⟩ ⟨Nat.le_of_ble_eq_true rfl, Nat.le_of_ble_eq_true rfl⟩ ?_
          refine z_istore (L' := [(4, _), (0, _), (1, _), (2, _), (3, _)]) d_Tb_keeper_68 (by decide) rfl ?_
          refine z_aload_n 1 d_Tb_keeper_70 rfl rfl ?_
          refine z_get zc_Tb 0 (by decide) qF_Tb_10 hT.tb rfl d_Tb_keeper_71 ?_
          have hk8 : nk < 8 := (nI_ltI (a := nk) (b := 8) (by omega) (by decide)).mp c_48
          refine z_new (fs := [.int 0, .int 0, .int 0, .int 0, .int 0, .int 0]) zc_Ke qK_Tb_77 qO_Ke qN_Ke (by decide) ⟨by decide, by decide⟩ d_Tb_keeper_74 (fun a ha hab => ?_)
          have hout := hT.none ha
          refine z_dup d_Tb_keeper_77 rfl ?_
          refine z_iload 0 d_Tb_keeper_78 rfl ?_
          refine z_iload_n 2 d_Tb_keeper_80 rfl rfl ?_
          refine z_iload_n 3 d_Tb_keeper_81 rfl rfl ?_
          refine z_iload_n 4 d_Tb_keeper_82 rfl rfl ?_
          refine z_callI0 (m_Ke_init hs0 hst (nI nk) x z w zu_s) ym_Ke_init rfl qM_Tb_79 qI_Ke_init d_Tb_keeper_83 rfl (Nat.le_of_ble_eq_true rfl) ⟨by decide, by decide⟩ ⟨Nat.le_of_ble_eq_true rfl, Nat.le_of_ble_eq_true rfl⟩ ?_
          rw [zu_zu]
          have hT2 := hT.out (w := zob 5 [.int (nI nk), .int x, .int z, .int w, .int 0, .int 0]) hout
          have hv : zel d (zu G a (zob 5 [.int (nI nk), .int x, .int z, .int w, .int 0, .int 0])) a := Or.inl ⟨5, _, _, _, _, _, zc_Ke, qT_Ke_Oj, zu_s⟩
          refine z_callVp1 ((m_AL_add_1a hs0 hst (mc := V 1 0) ((hT2.kl).trans (by rw [h0]; rfl)) hv)) ym_AL_add_1 qM_Tb_82 qI_AL_add_1 qV_AL_AL_add_1 zc_AL hT2.kl d_Tb_keeper_86 rfl (Nat.le_of_ble_eq_true rfl) ⟨by decide, by decide⟩ ⟨Nat.le_of_ble_eq_true rfl, Nat.le_of_ble_eq_true rfl⟩ (fun r_86 G_86 hp_86 => ?_)
          obtain ⟨rfl, b, hbn, hbb, hbh, rfl⟩ := hp_86
          have hbG : G b = none := by
            by_cases eb : b = a
            · subst eb; rw [zu_s] at hbn; cases hbn
            · rw [zu_n eb] at hbn; exact hbn
          have hfr : tFr A nk ns G (zu (zu (zu G a (zob 5 [.int (nI nk), .int x, .int z, .int w, .int 0, .int 0])) b (zO d 10 (va_up zfn 0 (some a)))) (A 1) (zob 2 [.int (V 1 0 + 1), .ref b, .int (nI (0 + 1))])) := (zFr.new ha).tr ((zFr.new hbn).tr (zT.frput (tl_s 1) rfl))
          refine z_pop d_Tb_keeper_89 rfl ?_
          refine z_iload 0 d_Tb_keeper_90 rfl ?_
          exact z_iret rfl (⟨hok, hk8, rfl, zAk A nk a (b), zNw.k ha (fun _ => hbG) (fun e => by omega) hk8, by subst h0; exact hT2.newk (by omega) (z6k (nI 0) x z w) rfl (V 1 0 + 1) zu_s hout (fun _ => hbn) (fun e => by omega) (va_up_0 (A := fun j => zAk A 0 a b (100 + j)) (n := 0) (fun j hj => by omega) (fun j hj => rfl) (if_pos rfl)), hfr⟩) (by first | decide | omega) (by first | decide | omega) d_Tb_keeper_92
        · skip
          exact z_thS (names := ["java/lang/RuntimeException", "java/lang/Exception"]) (by decide) (by decide) qK_Tb_72 qN_ISE qR_Tb_74 th_76.1 th_76.2 d_Tb_keeper_51 d_Tb_keeper_54 d_Tb_keeper_55 d_Tb_keeper_57 d_Tb_keeper_60 (by decide) (Nat.le_of_ble_eq_true rfl) ⟨by decide, by decide⟩ (⟨rfl, Or.inr ⟨hok, Nat.le_antisymm hnk (Nat.le_of_not_lt fun q => c_48 ((nI_ltI (a := nk) (b := 8) (by omega) (by decide)).mpr q)), rfl⟩⟩) (by decide) (by decide)
      · skip
        exact z_thS (names := ["java/lang/RuntimeException", "java/lang/Exception"]) (by decide) (by decide) qK_Tb_61 qN_IAE qR_Tb_63 th_65.1 th_65.2 d_Tb_keeper_29 d_Tb_keeper_32 d_Tb_keeper_33 d_Tb_keeper_35 d_Tb_keeper_38 (by decide) (Nat.le_of_ble_eq_true rfl) ⟨by decide, by decide⟩ (⟨rfl, Or.inl ⟨by unfold zkok; first | (rw [(zb_0 _).mp c_6]; rfl) | (rw [(zb_0 _).mp c_16, Bool.false_and, Bool.and_false]) | (rw [(zb_0 _).mp c_26, Bool.and_false, Bool.and_false]), rfl⟩⟩) (by decide) (by decide)
set_option maxHeartbeats 4000000 in
set_option maxRecDepth 100000 in
theorem m_Tb_keeper_b {g0 : State} {d : zD} {l : Launch} {a0 : Array Value} (hs0 : zS0 d a0 g0) (hst : l.stackTraces = false) {G : zG} {A : Nat → Nat} {D : Nat → UInt64} {V : Nat → Nat → Int32} {nk ns : Nat} (hT : zT d A D V nk ns G) (h0 : 0 < nk) (x z w : Int32) : zMet g0 d l y_Tb_keeper c_Tb_keeper 5 ((Option.some Jvm.ClassFile.FieldType.int)) 11 2 92 [.ref (A 0), .int x, .int z, .int w] (G) (fun r G1 => zkok x z w = true ∧ nk < 8 ∧ r = some (.int (nI nk)) ∧ ∃ A', zNw A A' nk ns (nk + 1) ns G ∧ zT d A' D (rset (rset V (100 + nk) (z6k (nI nk) x z w)) 1 (fun _ => V 1 0 + 1)) (nk + 1) ns G1 ∧ tFr A nk ns G G1) (fun E G1 => G1 = G ∧ ((zkok x z w = false ∧ E = "java/lang/IllegalArgumentException") ∨ (zkok x z w = true ∧ nk = 8 ∧ E = "java/lang/IllegalStateException"))) := by
  have hG_Tb := hT.tb
  have hnk : nk ≤ 8 := hT.2.1
  have hns : ns ≤ 6 := hT.2.2.1
  refine z_entry hs0 hst (by decide) (Nat.le_of_ble_eq_true rfl) (fun p e s m args below meth c => ?_)
  refine z_iload_n 1 d_Tb_keeper_0 rfl rfl ?_
  refine z_iconst (v := 0) d_Tb_keeper_1 (by decide) ?_
  refine z_iconst (v := 3) d_Tb_keeper_2 (by decide) ?_
  refine z_callS0 (m_Tb_isFrom hs0 hst x 0 _) ym_Tb_isFrom qM_Tb_57 qS_Tb_isFrom d_Tb_keeper_3 rfl (Nat.le_of_ble_eq_true rfl) ⟨by decide, by decide⟩ ⟨Nat.le_of_ble_eq_true rfl, Nat.le_of_ble_eq_true rfl⟩ ?_
  refine z_if_eq 29 d_Tb_keeper_6 (by decide) (fun c_6 => ?_) (fun c_6 => ?_)
  · skip
    exact z_thS (names := ["java/lang/RuntimeException", "java/lang/Exception"]) (by decide) (by decide) qK_Tb_61 qN_IAE qR_Tb_63 th_65.1 th_65.2 d_Tb_keeper_29 d_Tb_keeper_32 d_Tb_keeper_33 d_Tb_keeper_35 d_Tb_keeper_38 (by decide) (Nat.le_of_ble_eq_true rfl) ⟨by decide, by decide⟩ (⟨rfl, Or.inl ⟨by unfold zkok; first | (rw [(zb_0 _).mp c_6]; rfl) | (rw [(zb_0 _).mp c_16, Bool.false_and, Bool.and_false]) | (rw [(zb_0 _).mp c_26, Bool.and_false, Bool.and_false]), rfl⟩⟩) (by decide) (by decide)
  · skip
    refine z_iload_n 2 d_Tb_keeper_9 rfl rfl ?_
    refine z_iconst (v := 1) d_Tb_keeper_10 (by decide) ?_
    refine z_bipush (v := 99) d_Tb_keeper_11 (by decide) ?_
    refine z_callS0 (m_Tb_isFrom hs0 hst z 1 _) ym_Tb_isFrom qM_Tb_57 qS_Tb_isFrom d_Tb_keeper_13 rfl (Nat.le_of_ble_eq_true rfl) ⟨by decide, by decide⟩ ⟨Nat.le_of_ble_eq_true rfl, Nat.le_of_ble_eq_true rfl⟩ ?_
    refine z_if_eq 29 d_Tb_keeper_16 (by decide) (fun c_16 => ?_) (fun c_16 => ?_)
    · skip
      exact z_thS (names := ["java/lang/RuntimeException", "java/lang/Exception"]) (by decide) (by decide) qK_Tb_61 qN_IAE qR_Tb_63 th_65.1 th_65.2 d_Tb_keeper_29 d_Tb_keeper_32 d_Tb_keeper_33 d_Tb_keeper_35 d_Tb_keeper_38 (by decide) (Nat.le_of_ble_eq_true rfl) ⟨by decide, by decide⟩ (⟨rfl, Or.inl ⟨by unfold zkok; first | (rw [(zb_0 _).mp c_6]; rfl) | (rw [(zb_0 _).mp c_16, Bool.false_and, Bool.and_false]) | (rw [(zb_0 _).mp c_26, Bool.and_false, Bool.and_false]), rfl⟩⟩) (by decide) (by decide)
    · skip
      refine z_iload_n 3 d_Tb_keeper_19 rfl rfl ?_
      refine z_iconst (v := 0) d_Tb_keeper_20 (by decide) ?_
      refine z_bipush (v := 100) d_Tb_keeper_21 (by decide) ?_
      refine z_callS0 (m_Tb_isFrom hs0 hst w 0 _) ym_Tb_isFrom qM_Tb_57 qS_Tb_isFrom d_Tb_keeper_23 rfl (Nat.le_of_ble_eq_true rfl) ⟨by decide, by decide⟩ ⟨Nat.le_of_ble_eq_true rfl, Nat.le_of_ble_eq_true rfl⟩ ?_
      refine z_if_ne 39 d_Tb_keeper_26 (by decide) (fun c_26 => ?_) (fun c_26 => ?_)
      · skip
        have hok : zkok x z w = true := by unfold zkok; rw [(zb_n0 _).mp c_6, (zb_n0 _).mp c_16, (zb_n0 _).mp c_26]; rfl
        refine z_aload_n 0 d_Tb_keeper_39 rfl rfl ?_
        refine z_get zc_Tb 0 (by decide) qF_Tb_10 hG_Tb rfl d_Tb_keeper_40 ?_
        refine z_callV0 (m_AL_size hs0 hst hT.kl) ym_AL_size qM_Tb_68 qI_AL_size qV_AL_AL_size zc_AL hT.kl d_Tb_keeper_43 rfl (Nat.le_of_ble_eq_true rfl) ⟨by decide, by decide⟩ ⟨Nat.le_of_ble_eq_true rfl, Nat.le_of_ble_eq_true rfl⟩ ?_
        refine z_bipush (v := (nI 8)) d_Tb_keeper_46 (by decide) ?_
        refine z_icmp_lt 61 d_Tb_keeper_48 (by decide) (fun c_48 => ?_) (fun c_48 => ?_)
        · skip
          refine z_aload_n 0 d_Tb_keeper_61 rfl rfl ?_
          refine z_get zc_Tb 0 (by decide) qF_Tb_10 hG_Tb rfl d_Tb_keeper_62 ?_
          refine z_callV0 (m_AL_size hs0 hst hT.kl) ym_AL_size qM_Tb_68 qI_AL_size qV_AL_AL_size zc_AL hT.kl d_Tb_keeper_65 rfl (Nat.le_of_ble_eq_true rfl) ⟨by decide, by decide⟩ ⟨Nat.le_of_ble_eq_true rfl, Nat.le_of_ble_eq_true rfl⟩ ?_
          refine z_istore (L' := [(4, _), (0, _), (1, _), (2, _), (3, _)]) d_Tb_keeper_68 (by decide) rfl ?_
          refine z_aload_n 1 d_Tb_keeper_70 rfl rfl ?_
          refine z_get zc_Tb 0 (by decide) qF_Tb_10 hT.tb rfl d_Tb_keeper_71 ?_
          have hk8 : nk < 8 := (nI_ltI (a := nk) (b := 8) (by omega) (by decide)).mp c_48
          refine z_new (fs := [.int 0, .int 0, .int 0, .int 0, .int 0, .int 0]) zc_Ke qK_Tb_77 qO_Ke qN_Ke (by decide) ⟨by decide, by decide⟩ d_Tb_keeper_74 (fun a ha hab => ?_)
          have hout := hT.none ha
          refine z_dup d_Tb_keeper_77 rfl ?_
          refine z_iload 0 d_Tb_keeper_78 rfl ?_
          refine z_iload_n 2 d_Tb_keeper_80 rfl rfl ?_
          refine z_iload_n 3 d_Tb_keeper_81 rfl rfl ?_
          refine z_iload_n 4 d_Tb_keeper_82 rfl rfl ?_
          refine z_callI0 (m_Ke_init hs0 hst (nI nk) x z w zu_s) ym_Ke_init rfl qM_Tb_79 qI_Ke_init d_Tb_keeper_83 rfl (Nat.le_of_ble_eq_true rfl) ⟨by decide, by decide⟩ ⟨Nat.le_of_ble_eq_true rfl, Nat.le_of_ble_eq_true rfl⟩ ?_
          rw [zu_zu]
          have hT2 := hT.out (w := zob 5 [.int (nI nk), .int x, .int z, .int w, .int 0, .int 0]) hout
          have hv : zel d (zu G a (zob 5 [.int (nI nk), .int x, .int z, .int w, .int 0, .int 0])) a := Or.inl ⟨5, _, _, _, _, _, zc_Ke, qT_Ke_Oj, zu_s⟩
          refine z_callV0 ((m_AL_add_1b hs0 hst (hT2.kA (k := 0) h0) (show nk < 10 by omega) hv)) ym_AL_add_1 qM_Tb_82 qI_AL_add_1 qV_AL_AL_add_1 zc_AL hT2.kl d_Tb_keeper_86 rfl (Nat.le_of_ble_eq_true rfl) ⟨by decide, by decide⟩ ⟨Nat.le_of_ble_eq_true rfl, Nat.le_of_ble_eq_true rfl⟩ ?_
          have hfr : tFr A nk ns G (zu (zu (zu G a (zob 5 [.int (nI nk), .int x, .int z, .int w, .int 0, .int 0])) (A 2) (zO d 10 (va_up (fun j => if j < nk then some (A (100 + j)) else none) nk (some a)))) (A 1) (zob 2 [.int (V 1 0 + 1), .ref (A 2), .int (nI (nk + 1))])) := (zFr.new ha).tr ((zT.frput (Or.inl ⟨by decide, fun _ => h0, fun e => absurd e (by decide)⟩) rfl).tr (zT.frput (tl_s 1) rfl))
          refine z_pop d_Tb_keeper_89 rfl ?_
          refine z_iload 0 d_Tb_keeper_90 rfl ?_
          exact z_iret rfl (⟨hok, hk8, rfl, zAk A nk a (A 2), zNw.k ha (fun e => by omega) (fun _ => rfl) hk8, hT2.newk hk8 (z6k (nI nk) x z w) rfl (V 1 0 + 1) zu_s hout (fun e => by omega) (fun _ => rfl) (va_up_0 (A := fun j => zAk A nk a (A 2) (100 + j)) (n := nk) (fun j hj => (if_pos hj).trans (congrArg some ((if_neg (by omega)).trans (if_neg (by omega))).symm)) (fun j hj => if_neg (by omega)) (if_pos rfl)), hfr⟩) (by first | decide | omega) (by first | decide | omega) d_Tb_keeper_92
        · skip
          exact z_thS (names := ["java/lang/RuntimeException", "java/lang/Exception"]) (by decide) (by decide) qK_Tb_72 qN_ISE qR_Tb_74 th_76.1 th_76.2 d_Tb_keeper_51 d_Tb_keeper_54 d_Tb_keeper_55 d_Tb_keeper_57 d_Tb_keeper_60 (by decide) (Nat.le_of_ble_eq_true rfl) ⟨by decide, by decide⟩ (⟨rfl, Or.inr ⟨hok, Nat.le_antisymm hnk (Nat.le_of_not_lt fun q => c_48 ((nI_ltI (a := nk) (b := 8) (by omega) (by decide)).mpr q)), rfl⟩⟩) (by decide) (by decide)
      · skip
        exact z_thS (names := ["java/lang/RuntimeException", "java/lang/Exception"]) (by decide) (by decide) qK_Tb_61 qN_IAE qR_Tb_63 th_65.1 th_65.2 d_Tb_keeper_29 d_Tb_keeper_32 d_Tb_keeper_33 d_Tb_keeper_35 d_Tb_keeper_38 (by decide) (Nat.le_of_ble_eq_true rfl) ⟨by decide, by decide⟩ (⟨rfl, Or.inl ⟨by unfold zkok; first | (rw [(zb_0 _).mp c_6]; rfl) | (rw [(zb_0 _).mp c_16, Bool.false_and, Bool.and_false]) | (rw [(zb_0 _).mp c_26, Bool.and_false, Bool.and_false]), rfl⟩⟩) (by decide) (by decide)
