
theorem zin14 {x : Int32} (h : zin x 1 4 = true) : ∃ n, 1 ≤ n ∧ n ≤ 4 ∧ x = nI n := by
  simp only [zin, Bool.and_eq_true, decide_eq_true_eq] at h
  obtain ⟨n, hn, rfl⟩ := nI_of (x := x) (fun q => by have := h.1; simp only [Int32.lt_iff_toInt_lt, Int32.le_iff_toInt_le, Int32.reduceToInt] at *; omega)
  exact ⟨n, (nI_leI (a := 1) (b := n) (by decide) hn).mp h.1, (nI_leI (a := n) (b := 4) hn (by decide)).mp h.2, rfl⟩
theorem zFr.nw {A : Nat → Nat} {live : Nat → Prop} {G G2 : zG} {a : Nat} {w : va_E} (h : zFr A live G G2) (ha : G a = none) : zFr A live G (zu G2 a w) := fun q v hq hn => by
  rw [zu_n (fun e => by rw [e, ha] at hq; cases hq)]; exact h q v hq hn
theorem zSe.hold {d : zD} {G : zG} {h hs he : Nat} {t z dt : Int32} {sh ep : Nat → Int32} {epo fr bl : Int32} (hS : zSe d h hs he t z dt sh ep epo fr bl G) (u w : Nat → Int32) : zSe d h hs he t z dt u w epo fr bl (zu (zu G hs (zI d 8 u)) he (zI d 8 w)) := by
  obtain ⟨h1, h2, h3, h4⟩ := hS
  have a1 : h ≠ hs := zOI h1 h2
  have a2 : h ≠ he := zOI h1 h3
  exact ⟨(zu_n a2).trans ((zu_n a1).trans h1), (zu_n h4).trans zu_s, zu_s, h4⟩
section ZTI
variable {d : zD} {A A' : Nat → Nat} {D : Nat → UInt64} {V : Nat → Nat → Int32} {nk ns nk' ns' : Nat} {G G1 G2 : zG}
theorem zNw.fr (h : zNw A A' nk ns nk' ns' G) (h1 : tFr A nk ns G G1) (h2 : tFr A' nk' ns' G1 G2) : tFr A nk ns G G2 := fun q v hq hn => h2 q v (h1 q v hq hn) fun r hr e => by
  rcases h.2 r hr with ⟨p, hp, e2⟩ | e2
  · exact hn p hp (e.trans e2)
  · rw [← e, hq] at e2; cases e2
def zAi (A : Nat → Nat) (ns a hs he b : Nat) : Nat → Nat := fun r => if r = 200 + ns then a else if r = 300 + ns then hs else if r = 400 + ns then he else if r = 4 then b else A r
theorem tl_4 (h : 0 < ns) : tlive nk ns 4 := Or.inl ⟨by decide, fun e => absurd e (by decide), fun _ => h⟩
theorem tl_2 (h : 0 < nk) : tlive nk ns 2 := Or.inl ⟨by decide, fun _ => h, fun e => absurd e (by decide)⟩
theorem zAi_c {a hs he b r : Nat} (hr : tlive nk (ns + 1) r) (hnk : nk ≤ 8) (hns : ns < 6) : (tlive nk ns r ∧ r ≠ 4 ∧ r < 500 ∧ zAi A ns a hs he b r = A r) ∨ (r = 4 ∧ zAi A ns a hs he b r = b) ∨ (r = 200 + ns ∧ zAi A ns a hs he b r = a) ∨ (r = 300 + ns ∧ zAi A ns a hs he b r = hs) ∨ (r = 400 + ns ∧ zAi A ns a hs he b r = he) := by
  unfold zAi
  by_cases r1 : r = 200 + ns
  · exact Or.inr (Or.inr (Or.inl ⟨r1, if_pos r1⟩))
  by_cases r2 : r = 300 + ns
  · exact Or.inr (Or.inr (Or.inr (Or.inl ⟨r2, by rw [if_neg r1, if_pos r2]⟩)))
  by_cases r3 : r = 400 + ns
  · exact Or.inr (Or.inr (Or.inr (Or.inr ⟨r3, by rw [if_neg r1, if_neg r2, if_pos r3]⟩)))
  by_cases r4 : r = 4
  · exact Or.inr (Or.inl ⟨r4, by rw [if_neg r1, if_neg r2, if_neg r3, if_pos r4]⟩)
  · exact Or.inl ⟨by unfold tlive at *; omega, r4, by unfold tlive at hr; omega, by rw [if_neg r1, if_neg r2, if_neg r3, if_neg r4]⟩
set_option maxHeartbeats 4000000 in
/-- a secret more -/
theorem zT.newi (h : zT d A D V nk ns G) (hk : ns < 6) {a hs he b : Nat} {w u1 u2 : Nat → Int32} (hw : ∃ t, 1 ≤ t ∧ t ≤ 4 ∧ w 0 = nI t) (mc : Int32) (hS : zSe d a hs he (w 0) (w 1) (w 2) u1 u2 (w 3) (w 4) (w 5) G) (ho : ∀ r, tlive nk ns r → A r ≠ a ∧ A r ≠ hs ∧ A r ≠ he) (hb : ns = 0 → G b = Option.none) (hb2 : 0 < ns → b = A 4) {f : Nat → Option Nat} (hf : f = fun j => if j < ns + 1 then some (zAi A ns a hs he b (200 + j)) else Option.none) :
    zT d (zAi A ns a hs he b) D (rset (rset (rset (rset V (200 + ns) w) (300 + ns) u1) (400 + ns) u2) 3 (fun _ => mc)) nk (ns + 1) (zu (zu G b (zO d 10 f)) (A 3) (zob 2 [.int mc, .ref b, .int (nI (ns + 1))])) := by
  have hnk : nk ≤ 8 := h.2.1
  obtain ⟨s1, s2, s3, s4⟩ := hS
  have a1 : a ≠ hs := zOI s1 s2
  have a2 : a ≠ he := zOI s1 s3
  have hbx : b ≠ a ∧ b ≠ hs ∧ b ≠ he := by
    rcases Nat.eq_zero_or_pos ns with h0 | h0
    · have := hb h0
      refine ⟨fun e => ?_, fun e => ?_, fun e => ?_⟩
      · rw [e, s1] at this; cases this
      · rw [e, s2] at this; cases this
      · rw [e, s3] at this; cases this
    · have := ho 4 (tl_4 h0)
      rw [← hb2 h0] at this
      exact this
  obtain ⟨b1, b2, b3⟩ := hbx
  have hbr : ∀ r, tlive nk ns r → r ≠ 4 → A r ≠ b := fun r hr h2 e => by
    rcases Nat.eq_zero_or_pos ns with h0 | h0
    · exact h.none (hb h0) r hr e
    · exact h2 (h.1.1 r 4 hr (tl_4 h0) (e.trans (hb2 h0)))
  have h3b : A 3 ≠ b := hbr 3 (tl_s 3) (by decide)
  have h3 := ho 3 (tl_s 3)
  refine ⟨⟨fun r q hr hq e => ?_, fun r hr => ?_⟩, ?_⟩
  · rcases zAi_c (A := A) (a := a) (hs := hs) (he := he) (b := b) hr hnk hk with ⟨l1, l2, l3, e1⟩ | ⟨l1, e1⟩ | ⟨l1, e1⟩ | ⟨l1, e1⟩ | ⟨l1, e1⟩ <;> rcases zAi_c (A := A) (a := a) (hs := hs) (he := he) (b := b) hq hnk hk with ⟨m1, m2, m3, e2⟩ | ⟨m1, e2⟩ | ⟨m1, e2⟩ | ⟨m1, e2⟩ | ⟨m1, e2⟩ <;> rw [e1, e2] at e
    · exact h.1.1 r q l1 m1 e
    · exact absurd e (hbr r l1 l2)
    · exact absurd e (ho r l1).1
    · exact absurd e (ho r l1).2.1
    · exact absurd e (ho r l1).2.2
    · exact absurd e.symm (hbr q m1 m2)
    · omega
    · exact absurd e b1
    · exact absurd e b2
    · exact absurd e b3
    · exact absurd e.symm (ho q m1).1
    · exact absurd e.symm b1
    · omega
    · exact absurd e a1
    · exact absurd e a2
    · exact absurd e.symm (ho q m1).2.1
    · exact absurd e.symm b2
    · exact absurd e.symm a1
    · omega
    · exact absurd e s4
    · exact absurd e.symm (ho q m1).2.2
    · exact absurd e.symm b3
    · exact absurd e.symm a2
    · exact absurd e.symm s4
    · omega
  · have e200 : zAi A ns a hs he b (200 + ns) = a := if_pos rfl
    have e300 : zAi A ns a hs he b (300 + ns) = hs := (if_neg (by omega)).trans (if_pos rfl)
    have e400 : zAi A ns a hs he b (400 + ns) = he := (if_neg (by omega)).trans ((if_neg (by omega)).trans (if_pos rfl))
    have e4 : zAi A ns a hs he b 4 = b := (if_neg (by omega)).trans ((if_neg (by omega)).trans ((if_neg (by omega)).trans (if_pos rfl)))
    have eo : ∀ q, q ≠ 4 → q ≠ 200 + ns → q ≠ 300 + ns → q ≠ 400 + ns → zAi A ns a hs he b q = A q := fun q q1 q2 q3 q4 => (if_neg q2).trans ((if_neg q3).trans ((if_neg q4).trans (if_neg q1)))
    rcases zAi_c (A := A) (a := a) (hs := hs) (he := he) (b := b) hr hnk hk with ⟨l1, l2, l3, e1⟩ | ⟨l1, e1⟩ | ⟨l1, e1⟩ | ⟨l1, e1⟩ | ⟨l1, e1⟩ <;> rw [e1]
    · have hr2 : r ≠ 200 + ns ∧ r ≠ 300 + ns ∧ r ≠ 400 + ns := by unfold tlive at l1; omega
      by_cases r3 : r = 3
      · subst r3
        rw [zu_s, rset_s]
        show _ = some (zob 2 [.int mc, .ref (if ns + 1 = 0 then d.2.2 else zAi A ns a hs he b 4), .int (nI (ns + 1))])
        rw [if_neg (by omega), e4]
      · rw [zu_n (fun e => r3 (h.1.1 r 3 l1 (tl_s 3) e)), zu_n (hbr r l1 l2), rset_n r3, rset_n hr2.2.2, rset_n hr2.2.1, rset_n hr2.1]
        refine (h.1.2 r l1).trans (congrArg some ?_)
        by_cases r1 : r = 1
        · subst r1
          show zob 2 [_, .ref (if nk = 0 then d.2.2 else A 2), _] = zob 2 [_, .ref (if nk = 0 then d.2.2 else zAi A ns a hs he b 2), _]
          rw [eo 2 (by decide) (by omega) (by omega) (by omega)]
        · by_cases r2 : r = 2
          · subst r2
            show _ = zO d 10 (fun j => if j < nk then some (zAi A ns a hs he b (100 + j)) else Option.none)
            have : (fun j => if j < nk then some (zAi A ns a hs he b (100 + j)) else Option.none) = (fun j => if j < nk then some (A (100 + j)) else Option.none) := funext fun j => by
              by_cases hj : j < nk
              · rw [if_pos hj, if_pos hj, eo (100 + j) (by omega) (by omega) (by omega) (by omega)]
              · rw [if_neg hj, if_neg hj]
            rw [this]
            rfl
          · exact (tcell_A r1 r2 r3 l2 (fun q q1 q2 q3 q4 => eo q q4 (by omega) (by omega) (by omega)) (fun g1 g2 => ⟨eo _ (by omega) (by omega) (by omega) (by omega), eo _ (by omega) (by omega) (by omega) (by omega)⟩)).symm
    · subst l1
      rw [zu_n h3b.symm, zu_s, hf]
      rfl
    · subst l1
      rw [zu_n h3.1.symm, zu_n b1.symm, rset_n (by omega), rset_n (by omega), rset_n (by omega), rset_s, tcell_i hk, e300, e400]
      exact s1
    · subst l1
      rw [zu_n h3.2.1.symm, zu_n b2.symm, rset_n (by omega), rset_n (by omega), rset_s, tcell_a (by omega)]
      exact s2
    · subst l1
      rw [zu_n h3.2.2.symm, zu_n b3.symm, rset_n (by omega), rset_s, tcell_a (by omega)]
      exact s3
  · obtain ⟨i1, i2, i3, i4, i5, i6⟩ := h.2
    have hn : ∀ q, q ≠ 3 → q ≠ 200 + ns → q ≠ 300 + ns → q ≠ 400 + ns → (rset (rset (rset (rset V (200 + ns) w) (300 + ns) u1) (400 + ns) u2) 3 (fun _ => mc)) q = V q := fun q q1 q2 q3 q4 => by rw [rset_n q1, rset_n q4, rset_n q3, rset_n q2]
    refine ⟨i1, by omega, by rw [hn 12 (by decide) (by omega) (by omega) (by omega)]; exact i3, by rw [hn 5 (by decide) (by omega) (by omega) (by omega)]; exact i4, fun q hq => ?_, fun q hq => by rw [hn _ (by omega) (by omega) (by omega) (by omega)]; exact i6 q hq⟩
    by_cases ek : q = ns
    · subst ek; rw [rset_n (by omega), rset_n (by omega), rset_n (by omega), rset_s]; exact hw
    · rw [hn _ (by omega) (by omega) (by omega) (by omega)]; exact i5 q (by omega)
theorem zNw.i {a hs he b : Nat} (ha : G a = Option.none) (h1 : G hs = Option.none) (h2 : G he = Option.none) (hb : ns = 0 → G b = Option.none) (hb2 : 0 < ns → b = A 4) (hnk : nk ≤ 8) (hk : ns < 6) : zNw A (zAi A ns a hs he b) nk ns nk (ns + 1) G := by
  refine ⟨(if_neg (by omega)).trans ((if_neg (by omega)).trans ((if_neg (by omega)).trans (if_neg (by decide)))), fun r hr => ?_⟩
  rcases zAi_c (A := A) (a := a) (hs := hs) (he := he) (b := b) hr hnk hk with ⟨l1, l2, l3, e1⟩ | ⟨l1, e1⟩ | ⟨l1, e1⟩ | ⟨l1, e1⟩ | ⟨l1, e1⟩ <;> rw [e1]
  · exact Or.inl ⟨r, l1, rfl⟩
  · rcases Nat.eq_zero_or_pos ns with h0 | h0
    · exact Or.inr (hb h0)
    · exact Or.inl ⟨4, tl_4 h0, hb2 h0⟩
  · exact Or.inr ha
  · exact Or.inr h1
  · exact Or.inr h2
end ZTI
def zdok (nk : Nat) (x t z dt set : Int32) : Bool := zin x 0 96 && (zin t 1 4 && (zin z 1 4 && (zin dt 0 999 && (zsetok nk set && decide (t ≤ zbc set)))))

theorem d_Tb_deal_0 : decode c_Tb_deal 0 = .ok (.iload_n 1, 1) := by decide +kernel
theorem d_Tb_deal_1 : decode c_Tb_deal 1 = .ok (.invokestatic 90, 3) := by decide +kernel
theorem d_Tb_deal_4 : decode c_Tb_deal 4 = .ok (.ifCond .eq 33, 3) := by decide +kernel
theorem d_Tb_deal_7 : decode c_Tb_deal 7 = .ok (.iload_n 2, 1) := by decide +kernel
theorem d_Tb_deal_8 : decode c_Tb_deal 8 = .ok (.iconst 1, 1) := by decide +kernel
theorem d_Tb_deal_9 : decode c_Tb_deal 9 = .ok (.iconst 4, 1) := by decide +kernel
theorem d_Tb_deal_10 : decode c_Tb_deal 10 = .ok (.invokestatic 57, 3) := by decide +kernel
theorem d_Tb_deal_13 : decode c_Tb_deal 13 = .ok (.ifCond .eq 24, 3) := by decide +kernel
theorem d_Tb_deal_16 : decode c_Tb_deal 16 = .ok (.iload_n 3, 1) := by decide +kernel
theorem d_Tb_deal_17 : decode c_Tb_deal 17 = .ok (.iconst 1, 1) := by decide +kernel
theorem d_Tb_deal_18 : decode c_Tb_deal 18 = .ok (.iconst 4, 1) := by decide +kernel
theorem d_Tb_deal_19 : decode c_Tb_deal 19 = .ok (.invokestatic 57, 3) := by decide +kernel
theorem d_Tb_deal_22 : decode c_Tb_deal 22 = .ok (.ifCond .eq 15, 3) := by decide +kernel
theorem d_Tb_deal_25 : decode c_Tb_deal 25 = .ok (.iload 4, 2) := by decide +kernel
theorem d_Tb_deal_27 : decode c_Tb_deal 27 = .ok (.iconst 0, 1) := by decide +kernel
theorem d_Tb_deal_28 : decode c_Tb_deal 28 = .ok (.sipush 999, 3) := by decide +kernel
theorem d_Tb_deal_31 : decode c_Tb_deal 31 = .ok (.invokestatic 57, 3) := by decide +kernel
theorem d_Tb_deal_34 : decode c_Tb_deal 34 = .ok (.ifCond .ne 13, 3) := by decide +kernel
theorem d_Tb_deal_37 : decode c_Tb_deal 37 = .ok (.new 61, 3) := by decide +kernel
theorem d_Tb_deal_40 : decode c_Tb_deal 40 = .ok (.dup, 1) := by decide +kernel
theorem d_Tb_deal_41 : decode c_Tb_deal 41 = .ok (.ldc 99, 2) := by decide +kernel
theorem d_Tb_deal_43 : decode c_Tb_deal 43 = .ok (.invokespecial 65, 3) := by decide +kernel
theorem d_Tb_deal_46 : decode c_Tb_deal 46 = .ok (.athrow, 1) := by decide +kernel
theorem d_Tb_deal_47 : decode c_Tb_deal 47 = .ok (.aload_n 0, 1) := by decide +kernel
theorem d_Tb_deal_48 : decode c_Tb_deal 48 = .ok (.iload 5, 2) := by decide +kernel
theorem d_Tb_deal_50 : decode c_Tb_deal 50 = .ok (.invokevirtual 101, 3) := by decide +kernel
theorem d_Tb_deal_53 : decode c_Tb_deal 53 = .ok (.iload 5, 2) := by decide +kernel
theorem d_Tb_deal_55 : decode c_Tb_deal 55 = .ok (.invokestatic 105, 3) := by decide +kernel
theorem d_Tb_deal_58 : decode c_Tb_deal 58 = .ok (.iload_n 2, 1) := by decide +kernel
theorem d_Tb_deal_59 : decode c_Tb_deal 59 = .ok (.if_icmp .ge 13, 3) := by decide +kernel
theorem d_Tb_deal_62 : decode c_Tb_deal 62 = .ok (.new 61, 3) := by decide +kernel
theorem d_Tb_deal_65 : decode c_Tb_deal 65 = .ok (.dup, 1) := by decide +kernel
theorem d_Tb_deal_66 : decode c_Tb_deal 66 = .ok (.ldc 111, 2) := by decide +kernel
theorem d_Tb_deal_68 : decode c_Tb_deal 68 = .ok (.invokespecial 65, 3) := by decide +kernel
theorem d_Tb_deal_71 : decode c_Tb_deal 71 = .ok (.athrow, 1) := by decide +kernel
theorem d_Tb_deal_72 : decode c_Tb_deal 72 = .ok (.aload_n 0, 1) := by decide +kernel
theorem d_Tb_deal_73 : decode c_Tb_deal 73 = .ok (.getfield 16, 3) := by decide +kernel
theorem d_Tb_deal_76 : decode c_Tb_deal 76 = .ok (.invokevirtual 68, 3) := by decide +kernel
theorem d_Tb_deal_79 : decode c_Tb_deal 79 = .ok (.bipush 6, 2) := by decide +kernel
theorem d_Tb_deal_81 : decode c_Tb_deal 81 = .ok (.if_icmp .lt 13, 3) := by decide +kernel
theorem d_Tb_deal_84 : decode c_Tb_deal 84 = .ok (.new 72, 3) := by decide +kernel
theorem d_Tb_deal_87 : decode c_Tb_deal 87 = .ok (.dup, 1) := by decide +kernel
theorem d_Tb_deal_88 : decode c_Tb_deal 88 = .ok (.ldc 113, 2) := by decide +kernel
theorem d_Tb_deal_90 : decode c_Tb_deal 90 = .ok (.invokespecial 76, 3) := by decide +kernel
theorem d_Tb_deal_93 : decode c_Tb_deal 93 = .ok (.athrow, 1) := by decide +kernel
theorem d_Tb_deal_94 : decode c_Tb_deal 94 = .ok (.new 115, 3) := by decide +kernel
theorem d_Tb_deal_97 : decode c_Tb_deal 97 = .ok (.dup, 1) := by decide +kernel
theorem d_Tb_deal_98 : decode c_Tb_deal 98 = .ok (.iload_n 2, 1) := by decide +kernel
theorem d_Tb_deal_99 : decode c_Tb_deal 99 = .ok (.iload_n 3, 1) := by decide +kernel
theorem d_Tb_deal_100 : decode c_Tb_deal 100 = .ok (.iload 4, 2) := by decide +kernel
theorem d_Tb_deal_102 : decode c_Tb_deal 102 = .ok (.invokespecial 117, 3) := by decide +kernel
theorem d_Tb_deal_105 : decode c_Tb_deal 105 = .ok (.astore 6, 2) := by decide +kernel
theorem d_Tb_deal_107 : decode c_Tb_deal 107 = .ok (.aload_n 0, 1) := by decide +kernel
theorem d_Tb_deal_108 : decode c_Tb_deal 108 = .ok (.getfield 29, 3) := by decide +kernel
theorem d_Tb_deal_111 : decode c_Tb_deal 111 = .ok (.iload_n 1, 1) := by decide +kernel
theorem d_Tb_deal_112 : decode c_Tb_deal 112 = .ok (.iload_n 2, 1) := by decide +kernel
theorem d_Tb_deal_113 : decode c_Tb_deal 113 = .ok (.invokevirtual 120, 3) := by decide +kernel
theorem d_Tb_deal_116 : decode c_Tb_deal 116 = .ok (.iconst 0, 1) := by decide +kernel
theorem d_Tb_deal_117 : decode c_Tb_deal 117 = .ok (.istore 7, 2) := by decide +kernel
theorem d_Tb_deal_119 : decode c_Tb_deal 119 = .ok (.iload 7, 2) := by decide +kernel
theorem d_Tb_deal_121 : decode c_Tb_deal 121 = .ok (.bipush 8, 2) := by decide +kernel
theorem d_Tb_deal_123 : decode c_Tb_deal 123 = .ok (.if_icmp .ge 38, 3) := by decide +kernel
theorem d_Tb_deal_126 : decode c_Tb_deal 126 = .ok (.iload 5, 2) := by decide +kernel
theorem d_Tb_deal_128 : decode c_Tb_deal 128 = .ok (.iload 7, 2) := by decide +kernel
theorem d_Tb_deal_130 : decode c_Tb_deal 130 = .ok (.invokestatic 124, 3) := by decide +kernel
theorem d_Tb_deal_133 : decode c_Tb_deal 133 = .ok (.ifCond .eq 22, 3) := by decide +kernel
theorem d_Tb_deal_136 : decode c_Tb_deal 136 = .ok (.aload 6, 2) := by decide +kernel
theorem d_Tb_deal_138 : decode c_Tb_deal 138 = .ok (.iload 7, 2) := by decide +kernel
theorem d_Tb_deal_140 : decode c_Tb_deal 140 = .ok (.aload_n 0, 1) := by decide +kernel
theorem d_Tb_deal_141 : decode c_Tb_deal 141 = .ok (.getfield 29, 3) := by decide +kernel
theorem d_Tb_deal_144 : decode c_Tb_deal 144 = .ok (.iload 7, 2) := by decide +kernel
theorem d_Tb_deal_146 : decode c_Tb_deal 146 = .ok (.invokestatic 128, 3) := by decide +kernel
theorem d_Tb_deal_149 : decode c_Tb_deal 149 = .ok (.invokevirtual 131, 3) := by decide +kernel
theorem d_Tb_deal_152 : decode c_Tb_deal 152 = .ok (.invokevirtual 134, 3) := by decide +kernel
theorem d_Tb_deal_155 : decode c_Tb_deal 155 = .ok (.iinc 7 1, 3) := by decide +kernel
theorem d_Tb_deal_158 : decode c_Tb_deal 158 = .ok (.goto (-39), 3) := by decide +kernel
theorem d_Tb_deal_161 : decode c_Tb_deal 161 = .ok (.aload_n 0, 1) := by decide +kernel
theorem d_Tb_deal_162 : decode c_Tb_deal 162 = .ok (.getfield 16, 3) := by decide +kernel
theorem d_Tb_deal_165 : decode c_Tb_deal 165 = .ok (.invokevirtual 68, 3) := by decide +kernel
theorem d_Tb_deal_168 : decode c_Tb_deal 168 = .ok (.istore 7, 2) := by decide +kernel
theorem d_Tb_deal_170 : decode c_Tb_deal 170 = .ok (.aload_n 0, 1) := by decide +kernel
theorem d_Tb_deal_171 : decode c_Tb_deal 171 = .ok (.getfield 16, 3) := by decide +kernel
theorem d_Tb_deal_174 : decode c_Tb_deal 174 = .ok (.aload 6, 2) := by decide +kernel
theorem d_Tb_deal_176 : decode c_Tb_deal 176 = .ok (.invokevirtual 82, 3) := by decide +kernel
theorem d_Tb_deal_179 : decode c_Tb_deal 179 = .ok (.pop, 1) := by decide +kernel
theorem d_Tb_deal_180 : decode c_Tb_deal 180 = .ok (.aload_n 0, 1) := by decide +kernel
theorem d_Tb_deal_181 : decode c_Tb_deal 181 = .ok (.getfield 22, 3) := by decide +kernel
theorem d_Tb_deal_184 : decode c_Tb_deal 184 = .ok (.iconst 0, 1) := by decide +kernel
theorem d_Tb_deal_185 : decode c_Tb_deal 185 = .ok (.iload 7, 2) := by decide +kernel
theorem d_Tb_deal_187 : decode c_Tb_deal 187 = .ok (.aload_n 0, 1) := by decide +kernel
theorem d_Tb_deal_188 : decode c_Tb_deal 188 = .ok (.getfield 44, 3) := by decide +kernel
theorem d_Tb_deal_191 : decode c_Tb_deal 191 = .ok (.invokevirtual 137, 3) := by decide +kernel
theorem d_Tb_deal_194 : decode c_Tb_deal 194 = .ok (.iload 7, 2) := by decide +kernel
theorem d_Tb_deal_196 : decode c_Tb_deal 196 = .ok (.ireturn, 1) := by decide +kernel
set_option maxHeartbeats 4000000 in
set_option maxRecDepth 100000 in
theorem m_Tb_deal_a {g0 : State} {d : zD} {l : Launch} {a0 : Array Value} (hs0 : zS0 d a0 g0) (hst : l.stackTraces = false) {G : zG} {A : Nat → Nat} {D : Nat → UInt64} {V : Nat → Nat → Int32} {nk ns : Nat} (hT : zT d A D V nk ns G) (h0 : ns = 0) (x t z dt set : Int32) : zMet g0 d l y_Tb_deal c_Tb_deal 8 ((Option.some Jvm.ClassFile.FieldType.int)) 12 5 116 [.ref (A 0), .int x, .int t, .int z, .int dt, .int set] (G) (fun r G1 => zdok nk x t z dt set = true ∧ ns < 6 ∧ r = some (.int (nI ns)) ∧ ∃ A' D' V', zNw A A' nk ns nk (ns + 1) G ∧ zT d A' D' V' nk (ns + 1) G1 ∧ (∀ r j, zob_ r j → r ≠ 200 + ns → V' r j = V r j) ∧ (V' (200 + ns) 0 = t ∧ V' (200 + ns) 1 = z ∧ V' (200 + ns) 2 = dt ∧ V' (200 + ns) 4 = 0) ∧ tFr A nk ns G G1) (fun E G1 => G1 = G ∧ ((zdok nk x t z dt set = false ∧ E = "java/lang/IllegalArgumentException") ∨ (zdok nk x t z dt set = true ∧ ns = 6 ∧ E = "java/lang/IllegalStateException"))) := by
  have hG_Tb := hT.tb
  have hnk : nk ≤ 8 := hT.2.1
  have hns : ns ≤ 6 := hT.2.2.1
  refine z_entry hs0 hst (by decide) (Nat.le_of_ble_eq_true rfl) (fun p e s m args below meth c => ?_)
  refine z_iload_n 1 d_Tb_deal_0 rfl rfl ?_
  refine z_callS0 (m_Tb_isNumber hs0 hst x) ym_Tb_isNumber qM_Tb_90 qS_Tb_isNumber d_Tb_deal_1 rfl (Nat.le_of_ble_eq_true rfl) ⟨by decide, by decide⟩ ⟨Nat.le_of_ble_eq_true rfl, Nat.le_of_ble_eq_true rfl⟩ ?_
  refine z_if_eq 37 d_Tb_deal_4 (by decide) (fun c_4 => ?_) (fun c_4 => ?_)
  · skip
    exact z_thS (names := ["java/lang/RuntimeException", "java/lang/Exception"]) (by decide) (by decide) qK_Tb_61 qN_IAE qR_Tb_99 th_65.1 th_65.2 d_Tb_deal_37 d_Tb_deal_40 d_Tb_deal_41 d_Tb_deal_43 d_Tb_deal_46 (by decide) (Nat.le_of_ble_eq_true rfl) ⟨by decide, by decide⟩ (⟨rfl, Or.inl ⟨by unfold zdok; first | (rw [(zb_0 _).mp c_4]; rfl) | (rw [(zb_0 _).mp c_13, Bool.false_and, Bool.and_false]) | (rw [(zb_0 _).mp c_22, Bool.false_and, Bool.and_false, Bool.and_false]) | (rw [(zb_0 _).mp c_34, Bool.false_and, Bool.and_false, Bool.and_false, Bool.and_false]), rfl⟩⟩) (by decide) (by decide)
  · skip
    refine z_iload_n 2 d_Tb_deal_7 rfl rfl ?_
    refine z_iconst (v := 1) d_Tb_deal_8 (by decide) ?_
    refine z_iconst (v := 4) d_Tb_deal_9 (by decide) ?_
    refine z_callS0 (m_Tb_isFrom hs0 hst t 1 _) ym_Tb_isFrom qM_Tb_57 qS_Tb_isFrom d_Tb_deal_10 rfl (Nat.le_of_ble_eq_true rfl) ⟨by decide, by decide⟩ ⟨Nat.le_of_ble_eq_true rfl, Nat.le_of_ble_eq_true rfl⟩ ?_
    refine z_if_eq 37 d_Tb_deal_13 (by decide) (fun c_13 => ?_) (fun c_13 => ?_)
    · skip
      exact z_thS (names := ["java/lang/RuntimeException", "java/lang/Exception"]) (by decide) (by decide) qK_Tb_61 qN_IAE qR_Tb_99 th_65.1 th_65.2 d_Tb_deal_37 d_Tb_deal_40 d_Tb_deal_41 d_Tb_deal_43 d_Tb_deal_46 (by decide) (Nat.le_of_ble_eq_true rfl) ⟨by decide, by decide⟩ (⟨rfl, Or.inl ⟨by unfold zdok; first | (rw [(zb_0 _).mp c_4]; rfl) | (rw [(zb_0 _).mp c_13, Bool.false_and, Bool.and_false]) | (rw [(zb_0 _).mp c_22, Bool.false_and, Bool.and_false, Bool.and_false]) | (rw [(zb_0 _).mp c_34, Bool.false_and, Bool.and_false, Bool.and_false, Bool.and_false]), rfl⟩⟩) (by decide) (by decide)
    · skip
      refine z_iload_n 3 d_Tb_deal_16 rfl rfl ?_
      refine z_iconst (v := 1) d_Tb_deal_17 (by decide) ?_
      refine z_iconst (v := 4) d_Tb_deal_18 (by decide) ?_
      refine z_callS0 (m_Tb_isFrom hs0 hst z 1 _) ym_Tb_isFrom qM_Tb_57 qS_Tb_isFrom d_Tb_deal_19 rfl (Nat.le_of_ble_eq_true rfl) ⟨by decide, by decide⟩ ⟨Nat.le_of_ble_eq_true rfl, Nat.le_of_ble_eq_true rfl⟩ ?_
      refine z_if_eq 37 d_Tb_deal_22 (by decide) (fun c_22 => ?_) (fun c_22 => ?_)
      · skip
        exact z_thS (names := ["java/lang/RuntimeException", "java/lang/Exception"]) (by decide) (by decide) qK_Tb_61 qN_IAE qR_Tb_99 th_65.1 th_65.2 d_Tb_deal_37 d_Tb_deal_40 d_Tb_deal_41 d_Tb_deal_43 d_Tb_deal_46 (by decide) (Nat.le_of_ble_eq_true rfl) ⟨by decide, by decide⟩ (⟨rfl, Or.inl ⟨by unfold zdok; first | (rw [(zb_0 _).mp c_4]; rfl) | (rw [(zb_0 _).mp c_13, Bool.false_and, Bool.and_false]) | (rw [(zb_0 _).mp c_22, Bool.false_and, Bool.and_false, Bool.and_false]) | (rw [(zb_0 _).mp c_34, Bool.false_and, Bool.and_false, Bool.and_false, Bool.and_false]), rfl⟩⟩) (by decide) (by decide)
      · skip
        refine z_iload 4 d_Tb_deal_25 rfl ?_
        refine z_iconst (v := 0) d_Tb_deal_27 (by decide) ?_
        refine z_sipush (v := 999) d_Tb_deal_28 (by decide) ?_
        refine z_callS0 (m_Tb_isFrom hs0 hst dt 0 _) ym_Tb_isFrom qM_Tb_57 qS_Tb_isFrom d_Tb_deal_31 rfl (Nat.le_of_ble_eq_true rfl) ⟨by decide, by decide⟩ ⟨Nat.le_of_ble_eq_true rfl, Nat.le_of_ble_eq_true rfl⟩ ?_
        refine z_if_ne 47 d_Tb_deal_34 (by decide) (fun c_34 => ?_) (fun c_34 => ?_)
        · skip
          refine z_aload_n 0 d_Tb_deal_47 rfl rfl ?_
          refine z_iload 5 d_Tb_deal_48 rfl ?_
          refine z_callV (m_Tb_needSet hs0 hst hT set) ym_Tb_needSet qM_Tb_101 qI_Tb_needSet qV_Tb_Tb_needSet zc_Tb hG_Tb d_Tb_deal_50 rfl (Nat.le_of_ble_eq_true rfl) ⟨by decide, by decide⟩ ⟨Nat.le_of_ble_eq_true rfl, Nat.le_of_ble_eq_true rfl⟩ ?_ ?_
          · exact fun E G9 hx => by
              obtain ⟨hx1, rfl, hx3⟩ := hx
              obtain rfl : G = G9 := hx3.symm
              exact z_out ⟨rfl, Or.inl ⟨by unfold zdok; rw [hx1, Bool.false_and, Bool.and_false, Bool.and_false, Bool.and_false, Bool.and_false], rfl⟩⟩ (by decide) (by decide)
          intro r_50 G_50 hp_50
          obtain ⟨hs_50, hr_50, hg_50⟩ := hp_50
          obtain rfl : r_50 = none := hr_50
          obtain rfl : G = G_50 := hg_50.symm
          refine z_iload 5 d_Tb_deal_53 rfl ?_
          refine z_callS0 (m_In_bitCount hs0 hst set) ym_In_bitCount qM_Tb_105 qS_In_bitCount d_Tb_deal_55 rfl (Nat.le_of_ble_eq_true rfl) ⟨by decide, by decide⟩ ⟨Nat.le_of_ble_eq_true rfl, Nat.le_of_ble_eq_true rfl⟩ ?_
          refine z_iload_n 2 d_Tb_deal_58 rfl rfl ?_
          refine z_icmp_ge 72 d_Tb_deal_59 (by decide) (fun c_59 => ?_) (fun c_59 => ?_)
          · skip
            have hok : zdok nk x t z dt set = true := by
              unfold zdok
              rw [(zb_n0 _).mp c_4, (zb_n0 _).mp c_13, (zb_n0 _).mp c_22, (zb_n0 _).mp c_34, hs_50, decide_eq_true c_59]
              rfl
            refine z_aload_n 0 d_Tb_deal_72 rfl rfl ?_
            refine z_get zc_Tb 1 (by decide) qF_Tb_16 hG_Tb rfl d_Tb_deal_73 ?_
            refine z_callV0 (m_AL_size hs0 hst hT.sl) ym_AL_size qM_Tb_68 qI_AL_size qV_AL_AL_size zc_AL hT.sl d_Tb_deal_76 rfl (Nat.le_of_ble_eq_true rfl) ⟨by decide, by decide⟩ ⟨Nat.le_of_ble_eq_true rfl, Nat.le_of_ble_eq_true rfl⟩ ?_
            refine z_bipush (v := (nI 6)) d_Tb_deal_79 (by decide) ?_
            refine z_icmp_lt 94 d_Tb_deal_81 (by decide) (fun c_81 => ?_) (fun c_81 => ?_)
            · skip
              have hk6 : ns < 6 := (nI_ltI (a := ns) (b := 6) (by omega) (by decide)).mp c_81
              refine z_new (fs := [.int 0, .int 0, .int 0, .null, .null, .int 0, .int 0, .int 0]) zc_Se qK_Tb_115 qO_Se qN_Se (by decide) ⟨by decide, by decide⟩ d_Tb_deal_94 (fun a ha hab => ?_)
              refine z_dup d_Tb_deal_97 rfl ?_
              refine z_iload_n 2 d_Tb_deal_98 rfl rfl ?_
              refine z_iload_n 3 d_Tb_deal_99 rfl rfl ?_
              refine z_iload 4 d_Tb_deal_100 rfl ?_
              refine z_callIp1 (m_Se_init hs0 hst t z dt zu_s) ym_Se_init rfl qM_Tb_117 qI_Se_init d_Tb_deal_102 rfl (Nat.le_of_ble_eq_true rfl) ⟨by decide, by decide⟩ ⟨Nat.le_of_ble_eq_true rfl, Nat.le_of_ble_eq_true rfl⟩ (fun r_102 G_102 hp_102 => ?_)
              obtain ⟨hr_102, hs, he, hn1, hn2, hb1, hb2, m1, m2, m3, hg_102⟩ := hp_102
              obtain rfl : r_102 = none := hr_102
              have hn1' : G hs = none := by rw [zu_n m1.symm] at hn1; exact hn1
              have hn2' : G he = none := by rw [zu_n m2.symm] at hn2; exact hn2
              have ho : ∀ r, tlive nk ns r → A r ≠ a ∧ A r ≠ hs ∧ A r ≠ he := fun r hr => ⟨hT.none ha r hr, hT.none hn1' r hr, hT.none hn2' r hr⟩
              have hT1 : zT d A D V nk ns G_102 := by
                rw [hg_102]
                exact (((hT.out (fun r hr => (ho r hr).1)).out (fun r hr => (ho r hr).1)).out (fun r hr => (ho r hr).2.1)).out (fun r hr => (ho r hr).2.2)
              have hS1 : zSe d a hs he t z dt (zfl 8) (zfl 8) 0 0 0 G_102 := by
                rw [hg_102]
                exact ⟨(zu_n m2).trans ((zu_n m1).trans zu_s), (zu_n m3).trans zu_s, zu_s, m3⟩
              have hF1 : tFr A nk ns G G_102 := by
                rw [hg_102]
                exact ((((zFr.rf.nw ha).nw ha).nw hn1').nw hn2')
              refine z_astore (L' := [(6, _), (0, _), (1, _), (2, _), (3, _), (4, _), (5, _)]) d_Tb_deal_105 (by decide) rfl ?_
              refine z_aload_n 1 d_Tb_deal_107 rfl rfl ?_
              refine z_get zc_Tb 3 (by decide) qF_Tb_29 hT1.tb rfl d_Tb_deal_108 ?_
              refine z_iload_n 2 d_Tb_deal_111 rfl rfl ?_
              refine z_iload_n 3 d_Tb_deal_112 rfl rfl ?_
              refine z_callVp0 (m_Cu_draw hs0 hst hT1.cu hT1.cn x t) ym_Cu_draw qM_Tb_120 qI_Cu_draw qV_Cu_Cu_draw zc_Cu hT1.cu d_Tb_deal_113 rfl (Nat.le_of_ble_eq_true rfl) ⟨by decide, by decide⟩ ⟨Nat.le_of_ble_eq_true rfl, Nat.le_of_ble_eq_true rfl⟩ (fun r_113 G_113 hp_113 => ?_)
              obtain ⟨hr_113, hg_113⟩ := hp_113
              obtain rfl : r_113 = none := hr_113
              obtain ⟨V3, hT3, hK3, hF3⟩ := hT1.draw x t
              rw [← hg_113] at hT3 hF3
              have hS3 : zSe d a hs he t z dt (zfl 8) (zfl 8) 0 0 0 G_113 := by
                obtain ⟨s1, s2, s3, s4⟩ := hS1
                exact ⟨hF3 _ _ s1 (fun r hr e => (ho r hr).1 e.symm), hF3 _ _ s2 (fun r hr e => (ho r hr).2.1 e.symm), hF3 _ _ s3 (fun r hr e => (ho r hr).2.2 e.symm), s4⟩
              refine z_iconst (v := 0) d_Tb_deal_116 (by decide) ?_
              refine z_istore (L' := [(7, _), (6, _), (0, _), (1, _), (2, _), (3, _), (4, _), (5, _)]) d_Tb_deal_117 (by decide) rfl ?_
              have key_119 : ∀ (n : Nat) (i : Nat) (G2 : zG) (u1 u2 : Nat → Int32), 8 - i < n → (i ≤ 8) → (zT d A D V3 nk ns G2) → (zSe d a hs he t z dt u1 u2 0 0 0 G2) → (tFr A nk ns G G2) → Z g0 d y_Tb_deal c_Tb_deal 8 ((Option.some Jvm.ClassFile.FieldType.int)) [] p l e (zR 12 5 116) s m args below meth c (vx_MQ below (zQc g0 d (fun r G1 => zdok nk x t z dt set = true ∧ ns < 6 ∧ r = some (.int (nI ns)) ∧ ∃ A' D' V', zNw A A' nk ns nk (ns + 1) G ∧ zT d A' D' V' nk (ns + 1) G1 ∧ (∀ r j, zob_ r j → r ≠ 200 + ns → V' r j = V r j) ∧ (V' (200 + ns) 0 = t ∧ V' (200 + ns) 1 = z ∧ V' (200 + ns) 2 = dt ∧ V' (200 + ns) 4 = 0) ∧ tFr A nk ns G G1)) (zXc g0 d (fun E G1 => G1 = G ∧ ((zdok nk x t z dt set = false ∧ E = "java/lang/IllegalArgumentException") ∨ (zdok nk x t z dt set = true ∧ ns = 6 ∧ E = "java/lang/IllegalStateException")))) args s 5 116 (zA g0)) 4 30 (G2) [(7, .int (nI i)), (6, .ref a), (0, .ref (A 0)), (1, .int x), (2, .int t), (3, .int z), (4, .int dt), (5, .int set)] [] 119 := by
                intro n
                induction n with
                | zero => intro i G2 u1 u2 h0; exact absurd h0 (Nat.not_lt_zero _)
                | succ n ih_119 =>
                  intro i G2 u1 u2 hm_119 hi hT2 hS2 hF2
                  refine z_iload 0 d_Tb_deal_119 rfl ?_
                  refine z_bipush (v := (nI 8)) d_Tb_deal_121 (by decide) ?_
                  refine z_icmp_ge 161 d_Tb_deal_123 (by decide) (fun c_123 => ?_) (fun c_123 => ?_)
                  · skip
                    refine z_aload_n 2 d_Tb_deal_161 rfl rfl ?_
                    refine z_get zc_Tb 1 (by decide) qF_Tb_16 hT2.tb rfl d_Tb_deal_162 ?_
                    refine z_callV0 (m_AL_size hs0 hst hT2.sl) ym_AL_size qM_Tb_68 qI_AL_size qV_AL_AL_size zc_AL hT2.sl d_Tb_deal_165 rfl (Nat.le_of_ble_eq_true rfl) ⟨by decide, by decide⟩ ⟨Nat.le_of_ble_eq_true rfl, Nat.le_of_ble_eq_true rfl⟩ ?_
                    refine z_istore (L' := [(7, _), (6, _), (0, _), (1, _), (2, _), (3, _), (4, _), (5, _)]) d_Tb_deal_168 (by decide) rfl ?_
                    have hv : zel d G2 a := Or.inl ⟨7, _, _, _, _, _, zc_Se, qT_Se_Oj, hS2.1⟩
                    refine z_aload_n 2 d_Tb_deal_170 rfl rfl ?_
                    refine z_get zc_Tb 1 (by decide) qF_Tb_16 hT2.tb rfl d_Tb_deal_171 ?_
                    refine z_aload 1 d_Tb_deal_174 rfl ?_
                    refine z_callVp1 ((m_AL_add_1a hs0 hst (mc := V3 3 0) ((hT2.sl).trans (by rw [h0]; rfl)) hv)) ym_AL_add_1 qM_Tb_82 qI_AL_add_1 qV_AL_AL_add_1 zc_AL hT2.sl d_Tb_deal_176 rfl (Nat.le_of_ble_eq_true rfl) ⟨by decide, by decide⟩ ⟨Nat.le_of_ble_eq_true rfl, Nat.le_of_ble_eq_true rfl⟩ (fun r_176 G_176 hp_176 => ?_)
                    obtain ⟨hr_176, b, hbn, hbb, hbh, hg_176⟩ := hp_176
                    obtain rfl : r_176 = some (.int 1) := hr_176
                    obtain ⟨tn, ht1, ht4, htn⟩ := zin14 ((zb_n0 _).mp c_13)
                    have hbG : G b = none := by
                      cases eb : G b with
                      | none => rfl
                      | some v =>
                        by_cases hl : ∃ r, tlive nk ns r ∧ b = A r
                        · obtain ⟨r, hr, er⟩ := hl
                          have := hT2.1.2 r hr
                          rw [← er, hbn] at this; cases this
                        · have := hF2 b v eb (fun r hr e => hl ⟨r, hr, e⟩)
                          rw [hbn] at this; cases this
                    have hT5 : zT d (zAi A ns a hs he b) D (rset (rset (rset (rset V3 (200 + ns) (fun j => match j with | 0 => t | 1 => z | 2 => dt | _ => 0)) (300 + ns) u1) (400 + ns) u2) 3 (fun _ => V3 3 0 + 1)) nk (ns + 1) G_176 := by
                      rw [hg_176]
                      subst h0
                      exact hT2.newi (by omega) ⟨tn, ht1, ht4, htn⟩ (V3 3 0 + 1) hS2 ho (fun _ => hbn) (fun e => by omega) (va_up_0 (A := fun j => zAi A 0 a hs he b (200 + j)) (n := 0) (fun j hj => by omega) (fun j hj => rfl) (if_pos rfl))
                    have hF5 : tFr A nk ns G G_176 := by
                      rw [hg_176]
                      exact (hF2.nw hbG).tr (zT.frput (tl_s 3) rfl)
                    have hNw : zNw A (zAi A ns a hs he b) nk ns nk (ns + 1) G := zNw.i ha hn1' hn2' (fun _ => hbG) (fun e => by omega) hnk hk6
                    refine z_pop d_Tb_deal_179 rfl ?_
                    refine z_aload_n 2 d_Tb_deal_180 rfl rfl ?_
                    refine z_get zc_Tb 2 (by decide) qF_Tb_22 ((congrArg G_176 hNw.1).symm.trans hT5.tb) rfl d_Tb_deal_181 ?_
                    refine z_iconst (v := 0) d_Tb_deal_184 (by decide) ?_
                    refine z_iload 0 d_Tb_deal_185 rfl ?_
                    refine z_aload_n 2 d_Tb_deal_187 rfl rfl ?_
                    refine z_get zc_Tb 6 (by decide) qF_Tb_44 ((congrArg G_176 hNw.1).symm.trans hT5.tb) rfl d_Tb_deal_188 ?_
                    refine z_callVp0 (m_Re_enterT hs0 hst hT5 _ _ _) ym_Re_enter qM_Tb_137 qI_Re_enter qV_Re_Re_enter zc_Re hT5.re d_Tb_deal_191 rfl (Nat.le_of_ble_eq_true rfl) ⟨by decide, by decide⟩ ⟨Nat.le_of_ble_eq_true rfl, Nat.le_of_ble_eq_true rfl⟩ (fun r_191 G_191 hp_191 => ?_)
                    obtain ⟨hr_191, D9, V9, hT9, hK9, hF9⟩ := hp_191
                    obtain rfl : r_191 = none := hr_191
                    refine z_iload 0 d_Tb_deal_194 rfl ?_
                    exact z_iret rfl (by
                        refine ⟨hok, hk6, rfl, _, _, _, hNw, hT9, fun r j hj hr => ?_, ?_, hNw.fr hF5 hF9⟩
                        · refine (hK9 r j hj).trans ?_
                          rw [rset_n (by unfold zob_ at hj; omega), rset_n (by unfold zob_ at hj; omega), rset_n (by unfold zob_ at hj; omega), rset_n hr]
                          exact hK3 r j hj
                        · have hz : ∀ j, j < 3 ∨ j = 4 → V9 (200 + ns) j = (fun j => match j with | 0 => t | 1 => z | 2 => dt | _ => 0 : Nat → Int32) j := fun j hj => by
                            refine (hK9 (200 + ns) j (Or.inr (Or.inr ⟨by omega, by omega, hj⟩))).trans ?_
                            rw [rset_n (by omega), rset_n (by omega), rset_n (by omega), rset_s]
                          exact ⟨hz 0 (by omega), hz 1 (by omega), hz 2 (by omega), hz 4 (by omega)⟩) (by first | decide | omega) (by first | decide | omega) d_Tb_deal_196
                  · skip
                    have hi6 : i < 8 := Nat.lt_of_not_le fun q => c_123 (nI_le (a := 8) (b := i) q (by omega))
                    refine z_iload 7 d_Tb_deal_126 rfl ?_
                    refine z_iload 0 d_Tb_deal_128 rfl ?_
                    refine z_callS0 (m_Tb_isIn hs0 hst set (nI i)) ym_Tb_isIn qM_Tb_124 qS_Tb_isIn d_Tb_deal_130 rfl (Nat.le_of_ble_eq_true rfl) ⟨by decide, by decide⟩ ⟨Nat.le_of_ble_eq_true rfl, Nat.le_of_ble_eq_true rfl⟩ ?_
                    refine z_if_eq 155 d_Tb_deal_133 (by decide) (fun c_133 => ?_) (fun c_133 => ?_)
                    · skip
                      refine z_iinc (v := nI (i + 1)) (L' := [(7, _), (6, _), (0, _), (1, _), (2, _), (3, _), (4, _), (5, _)]) 0 d_Tb_deal_155 rfl (nI_1 i) (by decide) rfl ?_
                      refine z_goto 119 d_Tb_deal_158 (by decide) ?_
                      first
                        | exact ih_119 (i + 1) _ _ _ (by omega) (by omega) hT4 hS4 hF4
                        | exact ih_119 (i + 1) _ _ _ (by omega) (by omega) hT2 hS2 hF2
                    · skip
                      refine z_aload 1 d_Tb_deal_136 rfl ?_
                      refine z_iload 0 d_Tb_deal_138 rfl ?_
                      refine z_aload_n 2 d_Tb_deal_140 rfl rfl ?_
                      refine z_get zc_Tb 3 (by decide) qF_Tb_29 hT2.tb rfl d_Tb_deal_141 ?_
                      refine z_iload 0 d_Tb_deal_144 rfl ?_
                      refine z_callS0 (m_Tb_pointOf hs0 hst (nI i)) ym_Tb_pointOf qM_Tb_128 qS_Tb_pointOf d_Tb_deal_146 rfl (Nat.le_of_ble_eq_true rfl) ⟨by decide, by decide⟩ ⟨Nat.le_of_ble_eq_true rfl, Nat.le_of_ble_eq_true rfl⟩ ?_
                      refine z_callV0 (m_Cu_at hs0 hst hT2.cu hT2.cn _) ym_Cu_at qM_Tb_131 qI_Cu_at qV_Cu_Cu_at zc_Cu hT2.cu d_Tb_deal_149 rfl (Nat.le_of_ble_eq_true rfl) ⟨by decide, by decide⟩ ⟨Nat.le_of_ble_eq_true rfl, Nat.le_of_ble_eq_true rfl⟩ ?_
                      refine z_callVp0 (m_Se_hold hs0 hst _ hS2 hi6) ym_Se_hold qM_Tb_134 qI_Se_hold qV_Se_Se_hold zc_Se hS2.1 d_Tb_deal_152 rfl (Nat.le_of_ble_eq_true rfl) ⟨by decide, by decide⟩ ⟨Nat.le_of_ble_eq_true rfl, Nat.le_of_ble_eq_true rfl⟩ (fun r_152 G_152 hp_152 => ?_)
                      obtain ⟨hr_152, hg_152⟩ := hp_152
                      obtain rfl : r_152 = none := hr_152
                      have hS4 := hS2.hold (upd u1 i (zcat (V3 11) (nI i + 1) 4)) (upd u2 i 0)
                      rw [← hg_152] at hS4
                      have hT4 : zT d A D V3 nk ns G_152 := by
                        rw [hg_152]
                        exact (hT2.out (fun r hr => (ho r hr).2.1)).out (fun r hr => (ho r hr).2.2)
                      have hF4 : tFr A nk ns G G_152 := by
                        rw [hg_152]
                        exact (hF2.nw hn1').nw hn2'
                      refine z_iinc (v := nI (i + 1)) (L' := [(7, _), (6, _), (0, _), (1, _), (2, _), (3, _), (4, _), (5, _)]) 0 d_Tb_deal_155 rfl (nI_1 i) (by decide) rfl ?_
                      refine z_goto 119 d_Tb_deal_158 (by decide) ?_
                      first
                        | exact ih_119 (i + 1) _ _ _ (by omega) (by omega) hT4 hS4 hF4
                        | exact ih_119 (i + 1) _ _ _ (by omega) (by omega) hT2 hS2 hF2
              exact key_119 9 0 _ _ _ (by omega) (by omega) hT3 hS3 (hF1.tr hF3)
            · skip
              exact z_thS (names := ["java/lang/RuntimeException", "java/lang/Exception"]) (by decide) (by decide) qK_Tb_72 qN_ISE qR_Tb_113 th_76.1 th_76.2 d_Tb_deal_84 d_Tb_deal_87 d_Tb_deal_88 d_Tb_deal_90 d_Tb_deal_93 (by decide) (Nat.le_of_ble_eq_true rfl) ⟨by decide, by decide⟩ (⟨rfl, Or.inr ⟨hok, Nat.le_antisymm hns (Nat.le_of_not_lt fun q => c_81 ((nI_ltI (a := ns) (b := 6) (by omega) (by decide)).mpr q)), rfl⟩⟩) (by decide) (by decide)
          · skip
            exact z_thS (names := ["java/lang/RuntimeException", "java/lang/Exception"]) (by decide) (by decide) qK_Tb_61 qN_IAE qR_Tb_111 th_65.1 th_65.2 d_Tb_deal_62 d_Tb_deal_65 d_Tb_deal_66 d_Tb_deal_68 d_Tb_deal_71 (by decide) (Nat.le_of_ble_eq_true rfl) ⟨by decide, by decide⟩ (⟨rfl, Or.inl ⟨by unfold zdok; rw [decide_eq_false c_59, Bool.and_false, Bool.and_false, Bool.and_false, Bool.and_false, Bool.and_false], rfl⟩⟩) (by decide) (by decide)
        · skip
          exact z_thS (names := ["java/lang/RuntimeException", "java/lang/Exception"]) (by decide) (by decide) qK_Tb_61 qN_IAE qR_Tb_99 th_65.1 th_65.2 d_Tb_deal_37 d_Tb_deal_40 d_Tb_deal_41 d_Tb_deal_43 d_Tb_deal_46 (by decide) (Nat.le_of_ble_eq_true rfl) ⟨by decide, by decide⟩ (⟨rfl, Or.inl ⟨by unfold zdok; first | (rw [(zb_0 _).mp c_4]; rfl) | (rw [(zb_0 _).mp c_13, Bool.false_and, Bool.and_false]) | (rw [(zb_0 _).mp c_22, Bool.false_and, Bool.and_false, Bool.and_false]) | (rw [(zb_0 _).mp c_34, Bool.false_and, Bool.and_false, Bool.and_false, Bool.and_false]), rfl⟩⟩) (by decide) (by decide)
set_option maxHeartbeats 4000000 in
set_option maxRecDepth 100000 in
theorem m_Tb_deal_b {g0 : State} {d : zD} {l : Launch} {a0 : Array Value} (hs0 : zS0 d a0 g0) (hst : l.stackTraces = false) {G : zG} {A : Nat → Nat} {D : Nat → UInt64} {V : Nat → Nat → Int32} {nk ns : Nat} (hT : zT d A D V nk ns G) (h0 : 0 < ns) (x t z dt set : Int32) : zMet g0 d l y_Tb_deal c_Tb_deal 8 ((Option.some Jvm.ClassFile.FieldType.int)) 12 5 116 [.ref (A 0), .int x, .int t, .int z, .int dt, .int set] (G) (fun r G1 => zdok nk x t z dt set = true ∧ ns < 6 ∧ r = some (.int (nI ns)) ∧ ∃ A' D' V', zNw A A' nk ns nk (ns + 1) G ∧ zT d A' D' V' nk (ns + 1) G1 ∧ (∀ r j, zob_ r j → r ≠ 200 + ns → V' r j = V r j) ∧ (V' (200 + ns) 0 = t ∧ V' (200 + ns) 1 = z ∧ V' (200 + ns) 2 = dt ∧ V' (200 + ns) 4 = 0) ∧ tFr A nk ns G G1) (fun E G1 => G1 = G ∧ ((zdok nk x t z dt set = false ∧ E = "java/lang/IllegalArgumentException") ∨ (zdok nk x t z dt set = true ∧ ns = 6 ∧ E = "java/lang/IllegalStateException"))) := by
  have hG_Tb := hT.tb
  have hnk : nk ≤ 8 := hT.2.1
  have hns : ns ≤ 6 := hT.2.2.1
  refine z_entry hs0 hst (by decide) (Nat.le_of_ble_eq_true rfl) (fun p e s m args below meth c => ?_)
  refine z_iload_n 1 d_Tb_deal_0 rfl rfl ?_
  refine z_callS0 (m_Tb_isNumber hs0 hst x) ym_Tb_isNumber qM_Tb_90 qS_Tb_isNumber d_Tb_deal_1 rfl (Nat.le_of_ble_eq_true rfl) ⟨by decide, by decide⟩ ⟨Nat.le_of_ble_eq_true rfl, Nat.le_of_ble_eq_true rfl⟩ ?_
  refine z_if_eq 37 d_Tb_deal_4 (by decide) (fun c_4 => ?_) (fun c_4 => ?_)
  · skip
    exact z_thS (names := ["java/lang/RuntimeException", "java/lang/Exception"]) (by decide) (by decide) qK_Tb_61 qN_IAE qR_Tb_99 th_65.1 th_65.2 d_Tb_deal_37 d_Tb_deal_40 d_Tb_deal_41 d_Tb_deal_43 d_Tb_deal_46 (by decide) (Nat.le_of_ble_eq_true rfl) ⟨by decide, by decide⟩ (⟨rfl, Or.inl ⟨by unfold zdok; first | (rw [(zb_0 _).mp c_4]; rfl) | (rw [(zb_0 _).mp c_13, Bool.false_and, Bool.and_false]) | (rw [(zb_0 _).mp c_22, Bool.false_and, Bool.and_false, Bool.and_false]) | (rw [(zb_0 _).mp c_34, Bool.false_and, Bool.and_false, Bool.and_false, Bool.and_false]), rfl⟩⟩) (by decide) (by decide)
  · skip
    refine z_iload_n 2 d_Tb_deal_7 rfl rfl ?_
    refine z_iconst (v := 1) d_Tb_deal_8 (by decide) ?_
    refine z_iconst (v := 4) d_Tb_deal_9 (by decide) ?_
    refine z_callS0 (m_Tb_isFrom hs0 hst t 1 _) ym_Tb_isFrom qM_Tb_57 qS_Tb_isFrom d_Tb_deal_10 rfl (Nat.le_of_ble_eq_true rfl) ⟨by decide, by decide⟩ ⟨Nat.le_of_ble_eq_true rfl, Nat.le_of_ble_eq_true rfl⟩ ?_
    refine z_if_eq 37 d_Tb_deal_13 (by decide) (fun c_13 => ?_) (fun c_13 => ?_)
    · skip
      exact z_thS (names := ["java/lang/RuntimeException", "java/lang/Exception"]) (by decide) (by decide) qK_Tb_61 qN_IAE qR_Tb_99 th_65.1 th_65.2 d_Tb_deal_37 d_Tb_deal_40 d_Tb_deal_41 d_Tb_deal_43 d_Tb_deal_46 (by decide) (Nat.le_of_ble_eq_true rfl) ⟨by decide, by decide⟩ (⟨rfl, Or.inl ⟨by unfold zdok; first | (rw [(zb_0 _).mp c_4]; rfl) | (rw [(zb_0 _).mp c_13, Bool.false_and, Bool.and_false]) | (rw [(zb_0 _).mp c_22, Bool.false_and, Bool.and_false, Bool.and_false]) | (rw [(zb_0 _).mp c_34, Bool.false_and, Bool.and_false, Bool.and_false, Bool.and_false]), rfl⟩⟩) (by decide) (by decide)
    · skip
      refine z_iload_n 3 d_Tb_deal_16 rfl rfl ?_
      refine z_iconst (v := 1) d_Tb_deal_17 (by decide) ?_
      refine z_iconst (v := 4) d_Tb_deal_18 (by decide) ?_
      refine z_callS0 (m_Tb_isFrom hs0 hst z 1 _) ym_Tb_isFrom qM_Tb_57 qS_Tb_isFrom d_Tb_deal_19 rfl (Nat.le_of_ble_eq_true rfl) ⟨by decide, by decide⟩ ⟨Nat.le_of_ble_eq_true rfl, Nat.le_of_ble_eq_true rfl⟩ ?_
      refine z_if_eq 37 d_Tb_deal_22 (by decide) (fun c_22 => ?_) (fun c_22 => ?_)
      · skip
        exact z_thS (names := ["java/lang/RuntimeException", "java/lang/Exception"]) (by decide) (by decide) qK_Tb_61 qN_IAE qR_Tb_99 th_65.1 th_65.2 d_Tb_deal_37 d_Tb_deal_40 d_Tb_deal_41 d_Tb_deal_43 d_Tb_deal_46 (by decide) (Nat.le_of_ble_eq_true rfl) ⟨by decide, by decide⟩ (⟨rfl, Or.inl ⟨by unfold zdok; first | (rw [(zb_0 _).mp c_4]; rfl) | (rw [(zb_0 _).mp c_13, Bool.false_and, Bool.and_false]) | (rw [(zb_0 _).mp c_22, Bool.false_and, Bool.and_false, Bool.and_false]) | (rw [(zb_0 _).mp c_34, Bool.false_and, Bool.and_false, Bool.and_false, Bool.and_false]), rfl⟩⟩) (by decide) (by decide)
      · skip
        refine z_iload 4 d_Tb_deal_25 rfl ?_
        refine z_iconst (v := 0) d_Tb_deal_27 (by decide) ?_
        refine z_sipush (v := 999) d_Tb_deal_28 (by decide) ?_
        refine z_callS0 (m_Tb_isFrom hs0 hst dt 0 _) ym_Tb_isFrom qM_Tb_57 qS_Tb_isFrom d_Tb_deal_31 rfl (Nat.le_of_ble_eq_true rfl) ⟨by decide, by decide⟩ ⟨Nat.le_of_ble_eq_true rfl, Nat.le_of_ble_eq_true rfl⟩ ?_
        refine z_if_ne 47 d_Tb_deal_34 (by decide) (fun c_34 => ?_) (fun c_34 => ?_)
        · skip
          refine z_aload_n 0 d_Tb_deal_47 rfl rfl ?_
          refine z_iload 5 d_Tb_deal_48 rfl ?_
          refine z_callV (m_Tb_needSet hs0 hst hT set) ym_Tb_needSet qM_Tb_101 qI_Tb_needSet qV_Tb_Tb_needSet zc_Tb hG_Tb d_Tb_deal_50 rfl (Nat.le_of_ble_eq_true rfl) ⟨by decide, by decide⟩ ⟨Nat.le_of_ble_eq_true rfl, Nat.le_of_ble_eq_true rfl⟩ ?_ ?_
          · exact fun E G9 hx => by
              obtain ⟨hx1, rfl, hx3⟩ := hx
              obtain rfl : G = G9 := hx3.symm
              exact z_out ⟨rfl, Or.inl ⟨by unfold zdok; rw [hx1, Bool.false_and, Bool.and_false, Bool.and_false, Bool.and_false, Bool.and_false], rfl⟩⟩ (by decide) (by decide)
          intro r_50 G_50 hp_50
          obtain ⟨hs_50, hr_50, hg_50⟩ := hp_50
          obtain rfl : r_50 = none := hr_50
          obtain rfl : G = G_50 := hg_50.symm
          refine z_iload 5 d_Tb_deal_53 rfl ?_
          refine z_callS0 (m_In_bitCount hs0 hst set) ym_In_bitCount qM_Tb_105 qS_In_bitCount d_Tb_deal_55 rfl (Nat.le_of_ble_eq_true rfl) ⟨by decide, by decide⟩ ⟨Nat.le_of_ble_eq_true rfl, Nat.le_of_ble_eq_true rfl⟩ ?_
          refine z_iload_n 2 d_Tb_deal_58 rfl rfl ?_
          refine z_icmp_ge 72 d_Tb_deal_59 (by decide) (fun c_59 => ?_) (fun c_59 => ?_)
          · skip
            have hok : zdok nk x t z dt set = true := by
              unfold zdok
              rw [(zb_n0 _).mp c_4, (zb_n0 _).mp c_13, (zb_n0 _).mp c_22, (zb_n0 _).mp c_34, hs_50, decide_eq_true c_59]
              rfl
            refine z_aload_n 0 d_Tb_deal_72 rfl rfl ?_
            refine z_get zc_Tb 1 (by decide) qF_Tb_16 hG_Tb rfl d_Tb_deal_73 ?_
            refine z_callV0 (m_AL_size hs0 hst hT.sl) ym_AL_size qM_Tb_68 qI_AL_size qV_AL_AL_size zc_AL hT.sl d_Tb_deal_76 rfl (Nat.le_of_ble_eq_true rfl) ⟨by decide, by decide⟩ ⟨Nat.le_of_ble_eq_true rfl, Nat.le_of_ble_eq_true rfl⟩ ?_
            refine z_bipush (v := (nI 6)) d_Tb_deal_79 (by decide) ?_
            refine z_icmp_lt 94 d_Tb_deal_81 (by decide) (fun c_81 => ?_) (fun c_81 => ?_)
            · skip
              have hk6 : ns < 6 := (nI_ltI (a := ns) (b := 6) (by omega) (by decide)).mp c_81
              refine z_new (fs := [.int 0, .int 0, .int 0, .null, .null, .int 0, .int 0, .int 0]) zc_Se qK_Tb_115 qO_Se qN_Se (by decide) ⟨by decide, by decide⟩ d_Tb_deal_94 (fun a ha hab => ?_)
              refine z_dup d_Tb_deal_97 rfl ?_
              refine z_iload_n 2 d_Tb_deal_98 rfl rfl ?_
              refine z_iload_n 3 d_Tb_deal_99 rfl rfl ?_
              refine z_iload 4 d_Tb_deal_100 rfl ?_
              refine z_callIp1 (m_Se_init hs0 hst t z dt zu_s) ym_Se_init rfl qM_Tb_117 qI_Se_init d_Tb_deal_102 rfl (Nat.le_of_ble_eq_true rfl) ⟨by decide, by decide⟩ ⟨Nat.le_of_ble_eq_true rfl, Nat.le_of_ble_eq_true rfl⟩ (fun r_102 G_102 hp_102 => ?_)
              obtain ⟨hr_102, hs, he, hn1, hn2, hb1, hb2, m1, m2, m3, hg_102⟩ := hp_102
              obtain rfl : r_102 = none := hr_102
              have hn1' : G hs = none := by rw [zu_n m1.symm] at hn1; exact hn1
              have hn2' : G he = none := by rw [zu_n m2.symm] at hn2; exact hn2
              have ho : ∀ r, tlive nk ns r → A r ≠ a ∧ A r ≠ hs ∧ A r ≠ he := fun r hr => ⟨hT.none ha r hr, hT.none hn1' r hr, hT.none hn2' r hr⟩
              have hT1 : zT d A D V nk ns G_102 := by
                rw [hg_102]
                exact (((hT.out (fun r hr => (ho r hr).1)).out (fun r hr => (ho r hr).1)).out (fun r hr => (ho r hr).2.1)).out (fun r hr => (ho r hr).2.2)
              have hS1 : zSe d a hs he t z dt (zfl 8) (zfl 8) 0 0 0 G_102 := by
                rw [hg_102]
                exact ⟨(zu_n m2).trans ((zu_n m1).trans zu_s), (zu_n m3).trans zu_s, zu_s, m3⟩
              have hF1 : tFr A nk ns G G_102 := by
                rw [hg_102]
                exact ((((zFr.rf.nw ha).nw ha).nw hn1').nw hn2')
              refine z_astore (L' := [(6, _), (0, _), (1, _), (2, _), (3, _), (4, _), (5, _)]) d_Tb_deal_105 (by decide) rfl ?_
              refine z_aload_n 1 d_Tb_deal_107 rfl rfl ?_
              refine z_get zc_Tb 3 (by decide) qF_Tb_29 hT1.tb rfl d_Tb_deal_108 ?_
              refine z_iload_n 2 d_Tb_deal_111 rfl rfl ?_
              refine z_iload_n 3 d_Tb_deal_112 rfl rfl ?_
              refine z_callVp0 (m_Cu_draw hs0 hst hT1.cu hT1.cn x t) ym_Cu_draw qM_Tb_120 qI_Cu_draw qV_Cu_Cu_draw zc_Cu hT1.cu d_Tb_deal_113 rfl (Nat.le_of_ble_eq_true rfl) ⟨by decide, by decide⟩ ⟨Nat.le_of_ble_eq_true rfl, Nat.le_of_ble_eq_true rfl⟩ (fun r_113 G_113 hp_113 => ?_)
              obtain ⟨hr_113, hg_113⟩ := hp_113
              obtain rfl : r_113 = none := hr_113
              obtain ⟨V3, hT3, hK3, hF3⟩ := hT1.draw x t
              rw [← hg_113] at hT3 hF3
              have hS3 : zSe d a hs he t z dt (zfl 8) (zfl 8) 0 0 0 G_113 := by
                obtain ⟨s1, s2, s3, s4⟩ := hS1
                exact ⟨hF3 _ _ s1 (fun r hr e => (ho r hr).1 e.symm), hF3 _ _ s2 (fun r hr e => (ho r hr).2.1 e.symm), hF3 _ _ s3 (fun r hr e => (ho r hr).2.2 e.symm), s4⟩
              refine z_iconst (v := 0) d_Tb_deal_116 (by decide) ?_
              refine z_istore (L' := [(7, _), (6, _), (0, _), (1, _), (2, _), (3, _), (4, _), (5, _)]) d_Tb_deal_117 (by decide) rfl ?_
              have key_119 : ∀ (n : Nat) (i : Nat) (G2 : zG) (u1 u2 : Nat → Int32), 8 - i < n → (i ≤ 8) → (zT d A D V3 nk ns G2) → (zSe d a hs he t z dt u1 u2 0 0 0 G2) → (tFr A nk ns G G2) → Z g0 d y_Tb_deal c_Tb_deal 8 ((Option.some Jvm.ClassFile.FieldType.int)) [] p l e (zR 12 5 116) s m args below meth c (vx_MQ below (zQc g0 d (fun r G1 => zdok nk x t z dt set = true ∧ ns < 6 ∧ r = some (.int (nI ns)) ∧ ∃ A' D' V', zNw A A' nk ns nk (ns + 1) G ∧ zT d A' D' V' nk (ns + 1) G1 ∧ (∀ r j, zob_ r j → r ≠ 200 + ns → V' r j = V r j) ∧ (V' (200 + ns) 0 = t ∧ V' (200 + ns) 1 = z ∧ V' (200 + ns) 2 = dt ∧ V' (200 + ns) 4 = 0) ∧ tFr A nk ns G G1)) (zXc g0 d (fun E G1 => G1 = G ∧ ((zdok nk x t z dt set = false ∧ E = "java/lang/IllegalArgumentException") ∨ (zdok nk x t z dt set = true ∧ ns = 6 ∧ E = "java/lang/IllegalStateException")))) args s 5 116 (zA g0)) 4 30 (G2) [(7, .int (nI i)), (6, .ref a), (0, .ref (A 0)), (1, .int x), (2, .int t), (3, .int z), (4, .int dt), (5, .int set)] [] 119 := by
                intro n
                induction n with
                | zero => intro i G2 u1 u2 h0; exact absurd h0 (Nat.not_lt_zero _)
                | succ n ih_119 =>
                  intro i G2 u1 u2 hm_119 hi hT2 hS2 hF2
                  refine z_iload 0 d_Tb_deal_119 rfl ?_
                  refine z_bipush (v := (nI 8)) d_Tb_deal_121 (by decide) ?_
                  refine z_icmp_ge 161 d_Tb_deal_123 (by decide) (fun c_123 => ?_) (fun c_123 => ?_)
                  · skip
                    refine z_aload_n 2 d_Tb_deal_161 rfl rfl ?_
                    refine z_get zc_Tb 1 (by decide) qF_Tb_16 hT2.tb rfl d_Tb_deal_162 ?_
                    refine z_callV0 (m_AL_size hs0 hst hT2.sl) ym_AL_size qM_Tb_68 qI_AL_size qV_AL_AL_size zc_AL hT2.sl d_Tb_deal_165 rfl (Nat.le_of_ble_eq_true rfl) ⟨by decide, by decide⟩ ⟨Nat.le_of_ble_eq_true rfl, Nat.le_of_ble_eq_true rfl⟩ ?_
                    refine z_istore (L' := [(7, _), (6, _), (0, _), (1, _), (2, _), (3, _), (4, _), (5, _)]) d_Tb_deal_168 (by decide) rfl ?_
                    have hv : zel d G2 a := Or.inl ⟨7, _, _, _, _, _, zc_Se, qT_Se_Oj, hS2.1⟩
                    refine z_aload_n 2 d_Tb_deal_170 rfl rfl ?_
                    refine z_get zc_Tb 1 (by decide) qF_Tb_16 hT2.tb rfl d_Tb_deal_171 ?_
                    refine z_aload 1 d_Tb_deal_174 rfl ?_
                    refine z_callVp0 ((m_AL_add_1b hs0 hst (hT2.sA (i := 0) h0) (show ns < 10 by omega) hv)) ym_AL_add_1 qM_Tb_82 qI_AL_add_1 qV_AL_AL_add_1 zc_AL hT2.sl d_Tb_deal_176 rfl (Nat.le_of_ble_eq_true rfl) ⟨by decide, by decide⟩ ⟨Nat.le_of_ble_eq_true rfl, Nat.le_of_ble_eq_true rfl⟩ (fun r_176 G_176 hp_176 => ?_)
                    obtain ⟨hr_176, hg_176⟩ := hp_176
                    obtain rfl : r_176 = some (.int 1) := hr_176
                    obtain ⟨tn, ht1, ht4, htn⟩ := zin14 ((zb_n0 _).mp c_13)
                    have hT5 : zT d (zAi A ns a hs he (A 4)) D (rset (rset (rset (rset V3 (200 + ns) (fun j => match j with | 0 => t | 1 => z | 2 => dt | _ => 0)) (300 + ns) u1) (400 + ns) u2) 3 (fun _ => V3 3 0 + 1)) nk (ns + 1) G_176 := by
                      rw [hg_176]
                      exact hT2.newi (by omega) ⟨tn, ht1, ht4, htn⟩ (V3 3 0 + 1) hS2 ho (fun e => by omega) (fun _ => rfl) (va_up_0 (A := fun j => zAi A ns a hs he (A 4) (200 + j)) (n := ns) (fun j hj => (if_pos hj).trans (congrArg some ((if_neg (by omega)).trans ((if_neg (by omega)).trans ((if_neg (by omega)).trans (if_neg (by omega))))).symm)) (fun j hj => if_neg (by omega)) (if_pos rfl))
                    have hF5 : tFr A nk ns G G_176 := by
                      rw [hg_176]
                      exact (hF2.tr (zT.frput (tl_4 h0) rfl)).tr (zT.frput (tl_s 3) rfl)
                    have hNw : zNw A (zAi A ns a hs he (A 4)) nk ns nk (ns + 1) G := zNw.i ha hn1' hn2' (fun e => by omega) (fun _ => rfl) hnk hk6
                    refine z_pop d_Tb_deal_179 rfl ?_
                    refine z_aload_n 2 d_Tb_deal_180 rfl rfl ?_
                    refine z_get zc_Tb 2 (by decide) qF_Tb_22 ((congrArg G_176 hNw.1).symm.trans hT5.tb) rfl d_Tb_deal_181 ?_
                    refine z_iconst (v := 0) d_Tb_deal_184 (by decide) ?_
                    refine z_iload 0 d_Tb_deal_185 rfl ?_
                    refine z_aload_n 2 d_Tb_deal_187 rfl rfl ?_
                    refine z_get zc_Tb 6 (by decide) qF_Tb_44 ((congrArg G_176 hNw.1).symm.trans hT5.tb) rfl d_Tb_deal_188 ?_
                    refine z_callVp0 (m_Re_enterT hs0 hst hT5 _ _ _) ym_Re_enter qM_Tb_137 qI_Re_enter qV_Re_Re_enter zc_Re hT5.re d_Tb_deal_191 rfl (Nat.le_of_ble_eq_true rfl) ⟨by decide, by decide⟩ ⟨Nat.le_of_ble_eq_true rfl, Nat.le_of_ble_eq_true rfl⟩ (fun r_191 G_191 hp_191 => ?_)
                    obtain ⟨hr_191, D9, V9, hT9, hK9, hF9⟩ := hp_191
                    obtain rfl : r_191 = none := hr_191
                    refine z_iload 0 d_Tb_deal_194 rfl ?_
                    exact z_iret rfl (by
                        refine ⟨hok, hk6, rfl, _, _, _, hNw, hT9, fun r j hj hr => ?_, ?_, hNw.fr hF5 hF9⟩
                        · refine (hK9 r j hj).trans ?_
                          rw [rset_n (by unfold zob_ at hj; omega), rset_n (by unfold zob_ at hj; omega), rset_n (by unfold zob_ at hj; omega), rset_n hr]
                          exact hK3 r j hj
                        · have hz : ∀ j, j < 3 ∨ j = 4 → V9 (200 + ns) j = (fun j => match j with | 0 => t | 1 => z | 2 => dt | _ => 0 : Nat → Int32) j := fun j hj => by
                            refine (hK9 (200 + ns) j (Or.inr (Or.inr ⟨by omega, by omega, hj⟩))).trans ?_
                            rw [rset_n (by omega), rset_n (by omega), rset_n (by omega), rset_s]
                          exact ⟨hz 0 (by omega), hz 1 (by omega), hz 2 (by omega), hz 4 (by omega)⟩) (by first | decide | omega) (by first | decide | omega) d_Tb_deal_196
                  · skip
                    have hi6 : i < 8 := Nat.lt_of_not_le fun q => c_123 (nI_le (a := 8) (b := i) q (by omega))
                    refine z_iload 7 d_Tb_deal_126 rfl ?_
                    refine z_iload 0 d_Tb_deal_128 rfl ?_
                    refine z_callS0 (m_Tb_isIn hs0 hst set (nI i)) ym_Tb_isIn qM_Tb_124 qS_Tb_isIn d_Tb_deal_130 rfl (Nat.le_of_ble_eq_true rfl) ⟨by decide, by decide⟩ ⟨Nat.le_of_ble_eq_true rfl, Nat.le_of_ble_eq_true rfl⟩ ?_
                    refine z_if_eq 155 d_Tb_deal_133 (by decide) (fun c_133 => ?_) (fun c_133 => ?_)
                    · skip
                      refine z_iinc (v := nI (i + 1)) (L' := [(7, _), (6, _), (0, _), (1, _), (2, _), (3, _), (4, _), (5, _)]) 0 d_Tb_deal_155 rfl (nI_1 i) (by decide) rfl ?_
                      refine z_goto 119 d_Tb_deal_158 (by decide) ?_
                      first
                        | exact ih_119 (i + 1) _ _ _ (by omega) (by omega) hT4 hS4 hF4
                        | exact ih_119 (i + 1) _ _ _ (by omega) (by omega) hT2 hS2 hF2
                    · skip
                      refine z_aload 1 d_Tb_deal_136 rfl ?_
                      refine z_iload 0 d_Tb_deal_138 rfl ?_
                      refine z_aload_n 2 d_Tb_deal_140 rfl rfl ?_
                      refine z_get zc_Tb 3 (by decide) qF_Tb_29 hT2.tb rfl d_Tb_deal_141 ?_
                      refine z_iload 0 d_Tb_deal_144 rfl ?_
                      refine z_callS0 (m_Tb_pointOf hs0 hst (nI i)) ym_Tb_pointOf qM_Tb_128 qS_Tb_pointOf d_Tb_deal_146 rfl (Nat.le_of_ble_eq_true rfl) ⟨by decide, by decide⟩ ⟨Nat.le_of_ble_eq_true rfl, Nat.le_of_ble_eq_true rfl⟩ ?_
                      refine z_callV0 (m_Cu_at hs0 hst hT2.cu hT2.cn _) ym_Cu_at qM_Tb_131 qI_Cu_at qV_Cu_Cu_at zc_Cu hT2.cu d_Tb_deal_149 rfl (Nat.le_of_ble_eq_true rfl) ⟨by decide, by decide⟩ ⟨Nat.le_of_ble_eq_true rfl, Nat.le_of_ble_eq_true rfl⟩ ?_
                      refine z_callVp0 (m_Se_hold hs0 hst _ hS2 hi6) ym_Se_hold qM_Tb_134 qI_Se_hold qV_Se_Se_hold zc_Se hS2.1 d_Tb_deal_152 rfl (Nat.le_of_ble_eq_true rfl) ⟨by decide, by decide⟩ ⟨Nat.le_of_ble_eq_true rfl, Nat.le_of_ble_eq_true rfl⟩ (fun r_152 G_152 hp_152 => ?_)
                      obtain ⟨hr_152, hg_152⟩ := hp_152
                      obtain rfl : r_152 = none := hr_152
                      have hS4 := hS2.hold (upd u1 i (zcat (V3 11) (nI i + 1) 4)) (upd u2 i 0)
                      rw [← hg_152] at hS4
                      have hT4 : zT d A D V3 nk ns G_152 := by
                        rw [hg_152]
                        exact (hT2.out (fun r hr => (ho r hr).2.1)).out (fun r hr => (ho r hr).2.2)
                      have hF4 : tFr A nk ns G G_152 := by
                        rw [hg_152]
                        exact (hF2.nw hn1').nw hn2'
                      refine z_iinc (v := nI (i + 1)) (L' := [(7, _), (6, _), (0, _), (1, _), (2, _), (3, _), (4, _), (5, _)]) 0 d_Tb_deal_155 rfl (nI_1 i) (by decide) rfl ?_
                      refine z_goto 119 d_Tb_deal_158 (by decide) ?_
                      first
                        | exact ih_119 (i + 1) _ _ _ (by omega) (by omega) hT4 hS4 hF4
                        | exact ih_119 (i + 1) _ _ _ (by omega) (by omega) hT2 hS2 hF2
              exact key_119 9 0 _ _ _ (by omega) (by omega) hT3 hS3 (hF1.tr hF3)
            · skip
              exact z_thS (names := ["java/lang/RuntimeException", "java/lang/Exception"]) (by decide) (by decide) qK_Tb_72 qN_ISE qR_Tb_113 th_76.1 th_76.2 d_Tb_deal_84 d_Tb_deal_87 d_Tb_deal_88 d_Tb_deal_90 d_Tb_deal_93 (by decide) (Nat.le_of_ble_eq_true rfl) ⟨by decide, by decide⟩ (⟨rfl, Or.inr ⟨hok, Nat.le_antisymm hns (Nat.le_of_not_lt fun q => c_81 ((nI_ltI (a := ns) (b := 6) (by omega) (by decide)).mpr q)), rfl⟩⟩) (by decide) (by decide)
          · skip
            exact z_thS (names := ["java/lang/RuntimeException", "java/lang/Exception"]) (by decide) (by decide) qK_Tb_61 qN_IAE qR_Tb_111 th_65.1 th_65.2 d_Tb_deal_62 d_Tb_deal_65 d_Tb_deal_66 d_Tb_deal_68 d_Tb_deal_71 (by decide) (Nat.le_of_ble_eq_true rfl) ⟨by decide, by decide⟩ (⟨rfl, Or.inl ⟨by unfold zdok; rw [decide_eq_false c_59, Bool.and_false, Bool.and_false, Bool.and_false, Bool.and_false, Bool.and_false], rfl⟩⟩) (by decide) (by decide)
        · skip
          exact z_thS (names := ["java/lang/RuntimeException", "java/lang/Exception"]) (by decide) (by decide) qK_Tb_61 qN_IAE qR_Tb_99 th_65.1 th_65.2 d_Tb_deal_37 d_Tb_deal_40 d_Tb_deal_41 d_Tb_deal_43 d_Tb_deal_46 (by decide) (Nat.le_of_ble_eq_true rfl) ⟨by decide, by decide⟩ (⟨rfl, Or.inl ⟨by unfold zdok; first | (rw [(zb_0 _).mp c_4]; rfl) | (rw [(zb_0 _).mp c_13, Bool.false_and, Bool.and_false]) | (rw [(zb_0 _).mp c_22, Bool.false_and, Bool.and_false, Bool.and_false]) | (rw [(zb_0 _).mp c_34, Bool.false_and, Bool.and_false, Bool.and_false, Bool.and_false]), rfl⟩⟩) (by decide) (by decide)
