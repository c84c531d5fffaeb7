
theorem zW.grow2 {A A' : Nat → Nat} {live live' : Nat → Prop} {cell cell' : Nat → (Nat → Int32) → va_E} {V V' : Nat → Nat → Int32} {G G1 : zG} (New : Nat → Prop) (h : zW A live cell V G) (hN : ∀ r, live' r → (live r ∧ A' r = A r) ∨ New r) (hF : ∀ r, New r → ∀ q, live q → A q ≠ A' r) (hI : ∀ r q, New r → New q → A' r = A' q → r = q) (hC : ∀ r, live' r → G1 (A' r) = some (cell' r (V' r))) : zW A' live' cell' V' G1 := by
  refine ⟨fun r q hr hq e => ?_, hC⟩
  rcases hN r hr with ⟨l1, e1⟩ | n1 <;> rcases hN q hq with ⟨l2, e2⟩ | n2
  · exact h.1 r q l1 l2 (e1.symm.trans (e.trans e2))
  · exact absurd (e1.symm.trans e) (hF q n2 r l1)
  · exact absurd (e2.symm.trans e.symm) (hF r n1 q l2)
  · exact hI r q n1 n2 e
def zBi (B : Nat → Nat) (ns a hs he b : Nat) : Nat → Nat := fun r => if r = 200 + ns then a else if r = 300 + ns then hs else if r = 400 + ns then he else if r = 4 then b else B r
section ZMS
variable {d : zD} {B : Nat → Nat} {V : Nat → Nat → Int32} {nk ns ne ec : Nat} {G G1 : zG}
theorem zMs.fr {h hs he : Nat} {t z dt epo fr bl : Int32} {sh ep : Nat → Int32} (hS : zMs d h hs he t z dt epo fr bl sh ep G) (hF : mFr B nk ns ne G G1) (ho : ∀ r, mlive nk ns ne r → B r ≠ h ∧ B r ≠ hs ∧ B r ≠ he) : zMs d h hs he t z dt epo fr bl sh ep G1 :=
  ⟨hF _ _ hS.1 (fun r hr => (ho r hr).1.symm), hF _ _ hS.2.1 (fun r hr => (ho r hr).2.1.symm), hF _ _ hS.2.2.1 (fun r hr => (ho r hr).2.2.symm), hS.2.2.2⟩
theorem zMs.ush {h hs he : Nat} {t z dt epo fr bl : Int32} {sh ep : Nat → Int32} (hS : zMs d h hs he t z dt epo fr bl sh ep G) (v : Nat → Int32) : zMs d h hs he t z dt epo fr bl v ep (zu G hs (zI d 8 v)) :=
  ⟨(zu_n (zOI hS.1 hS.2.1)).trans hS.1, zu_s, (zu_n (Ne.symm hS.2.2.2)).trans hS.2.2.1, hS.2.2.2⟩
theorem zMs.uep {h hs he : Nat} {t z dt epo fr bl : Int32} {sh ep : Nat → Int32} (hS : zMs d h hs he t z dt epo fr bl sh ep G) (v : Nat → Int32) : zMs d h hs he t z dt epo fr bl sh v (zu G he (zI d 8 v)) :=
  ⟨(zu_n (zOI hS.1 hS.2.2.1)).trans hS.1, (zu_n hS.2.2.2).trans hS.2.1, zu_s, hS.2.2.2⟩
theorem zMs.ubs {h hs he a : Nat} {t z dt epo fr bl : Int32} {sh ep : Nat → Int32} {w : va_E} (hS : zMs d h hs he t z dt epo fr bl sh ep G) (ha : a ≠ h ∧ a ≠ hs ∧ a ≠ he) : zMs d h hs he t z dt epo fr bl sh ep (zu G a w) :=
  ⟨(zu_n ha.1.symm).trans hS.1, (zu_n ha.2.1.symm).trans hS.2.1, (zu_n ha.2.2.symm).trans hS.2.2.1, hS.2.2.2⟩
def zs6n (a b c e f g : Int32) : Nat → Int32 | 0 => a | 1 => b | 2 => c | 3 => e | 4 => f | _ => g
set_option maxHeartbeats 4000000 in
/-- a secret more -/
theorem zM.newi (h : zM d B V nk ns ne ec G) (hk : ns < 6) {a hs he b : Nat} {w u1 u2 : Nat → Int32} (hw : ∃ t, 1 ≤ t ∧ t ≤ 4 ∧ w 0 = nI t) (hw5 : ∃ b, w 5 = zb b) (hu : ∀ j, nk ≤ j → j < 8 → u1 j = -1) (mc : Int32) (hS : zMs d a hs he (w 0) (w 1) (w 2) (w 3) (w 4) (w 5) u1 u2 G) (ho : ∀ r, mlive nk ns ne r → B r ≠ a ∧ B r ≠ hs ∧ B r ≠ he) (hd : (b = B 4 ∧ 0 < ns) ∨ G b = none) {f' : Nat → Option Nat} (hf : f' = fun j => if j < ns + 1 then some (zBi B ns a hs he b (200 + j)) else none) :
    zM d (zBi B ns a hs he b) (rset (rset (rset (rset V (200 + ns) w) (300 + ns) u1) (400 + ns) u2) 3 (fun _ => mc)) nk (ns + 1) ne ec (zu (zu G b (zO d 10 f')) (B 3) (zob 2 [.int mc, .ref b, .int (nI (ns + 1))])) ∧ mFr B nk ns ne G (zu (zu G b (zO d 10 f')) (B 3) (zob 2 [.int mc, .ref b, .int (nI (ns + 1))])) := by
  have hnk : nk ≤ 8 := h.2.1
  have hne : ne ≤ 64 := h.2.2.2.1
  obtain ⟨s1, s2, s3, s4⟩ := hS
  have a1 : a ≠ hs := zOI s1 s2
  have a2 : a ≠ he := zOI s1 s3
  have e200 : zBi B ns a hs he b (200 + ns) = a := if_pos rfl
  have e300 : zBi B ns a hs he b (300 + ns) = hs := (if_neg (by omega)).trans (if_pos rfl)
  have e400 : zBi B ns a hs he b (400 + ns) = he := (if_neg (by omega)).trans ((if_neg (by omega)).trans (if_pos rfl))
  have e4 : zBi B ns a hs he b 4 = b := (if_neg (by omega)).trans ((if_neg (by omega)).trans ((if_neg (by omega)).trans (if_pos rfl)))
  have eo : ∀ q, q ≠ 4 → q ≠ 200 + ns → q ≠ 300 + ns → q ≠ 400 + ns → zBi B ns a hs he b q = B q := fun q q1 q2 q3 q4 => (if_neg q2).trans ((if_neg q3).trans ((if_neg q4).trans (if_neg q1)))
  have hold : ∀ r, mlive nk (ns + 1) ne r → r ≠ 4 → r ≠ 200 + ns → r ≠ 300 + ns → r ≠ 400 + ns → mlive nk ns ne r := fun r hr h1 h2 h3 h4 => by unfold mlive at *; omega
  have hbx : b ≠ a ∧ b ≠ hs ∧ b ≠ he := by
    rcases hd with ⟨rfl, h0⟩ | hb
    · exact ho 4 (ml_4 h0)
    · refine ⟨fun e => ?_, fun e => ?_, fun e => ?_⟩
      · rw [e, s1] at hb; cases hb
      · rw [e, s2] at hb; cases hb
      · rw [e, s3] at hb; cases hb
  obtain ⟨b1, b2, b3⟩ := hbx
  have hbr : ∀ r, mlive nk ns ne r → r ≠ 4 → B r ≠ b := fun r hr h2 e => by
    rcases hd with ⟨rfl, h0⟩ | hb
    · exact h2 (h.1.1 r 4 hr (ml_4 h0) e)
    · exact h.nn_ hb r hr e
  have h3b : B 3 ≠ b := hbr 3 (ml_s 3) (by decide)
  have h3 := ho 3 (ml_s 3)
  refine ⟨⟨h.1.grow2 (fun r => r = 200 + ns ∨ r = 300 + ns ∨ r = 400 + ns ∨ (r = 4 ∧ ∀ q, mlive nk ns ne q → B q ≠ b)) (fun r hr => ?_) (fun r hr q hq => ?_) (fun r q hr hq e => ?_) (fun r hr => ?_), ?_⟩, ?_⟩
  · by_cases r1 : r = 200 + ns
    · exact Or.inr (Or.inl r1)
    · by_cases r2 : r = 300 + ns
      · exact Or.inr (Or.inr (Or.inl r2))
      · by_cases r3 : r = 400 + ns
        · exact Or.inr (Or.inr (Or.inr (Or.inl r3)))
        · by_cases r4 : r = 4
          · rcases hd with ⟨hb, h0⟩ | hb
            · exact Or.inl (by rw [r4, e4]; exact ⟨ml_4 h0, hb⟩)
            · exact Or.inr (Or.inr (Or.inr (Or.inr ⟨r4, fun q hq => h.nn_ hb q hq⟩)))
          · exact Or.inl ⟨hold r hr r4 r1 r2 r3, eo r r4 r1 r2 r3⟩
  · rcases hr with rfl | rfl | rfl | ⟨rfl, hb⟩
    · rw [e200]; exact (ho q hq).1
    · rw [e300]; exact (ho q hq).2.1
    · rw [e400]; exact (ho q hq).2.2
    · rw [e4]; exact hb q hq
  · rcases hr with rfl | rfl | rfl | ⟨rfl, -⟩ <;> rcases hq with rfl | rfl | rfl | ⟨rfl, -⟩ <;> first | rfl | (simp only [e200, e300, e400, e4] at e)
    · exact absurd e a1
    · exact absurd e a2
    · exact absurd e.symm b1
    · exact absurd e.symm a1
    · exact absurd e s4
    · exact absurd e.symm b2
    · exact absurd e.symm a2
    · exact absurd e.symm s4
    · exact absurd e.symm b3
    · exact absurd e b1
    · exact absurd e b2
    · exact absurd e b3
  · by_cases r1 : r = 200 + ns
    · subst r1
      rw [e200, zu_n h3.1.symm, zu_n b1.symm, rset_n (by omega), rset_n (by omega), rset_n (by omega), rset_s, mcell_i hk, e300, e400]
      exact s1
    · by_cases r2 : r = 300 + ns
      · subst r2
        rw [e300, zu_n h3.2.1.symm, zu_n b2.symm, rset_n (by omega), rset_n (by omega), rset_s, mcell_a (by omega) (by omega)]
        exact s2
      · by_cases r3 : r = 400 + ns
        · subst r3
          rw [e400, zu_n h3.2.2.symm, zu_n b3.symm, rset_n (by omega), rset_s, mcell_a (by omega) (by omega)]
          exact s3
        · by_cases r4 : r = 4
          · subst r4
            rw [e4, zu_n h3b.symm, zu_s, hf]
            rfl
          · have l1 := hold r hr r4 r1 r2 r3
            rw [eo r r4 r1 r2 r3]
            by_cases r5 : r = 3
            · subst r5
              rw [zu_s, rset_s]
              show _ = some (zob 2 [.int mc, .ref (if ns + 1 = 0 then d.2.2 else zBi B ns a hs he b 4), .int (nI (ns + 1))])
              rw [if_neg (by omega), e4]
            · rw [zu_n (fun e => r5 (h.1.1 r 3 l1 (ml_s 3) e)), zu_n (hbr r l1 r4), rset_n r5, rset_n r3, rset_n r2, rset_n r1]
              refine (h.1.2 r l1).trans (congrArg some ?_)
              by_cases r6 : r = 1
              · subst r6
                show zob 2 [_, .ref (if nk = 0 then d.2.2 else B 2), _] = zob 2 [_, .ref (if nk = 0 then d.2.2 else zBi B ns a hs he b 2), _]
                rw [eo 2 (by decide) (by omega) (by omega) (by omega)]
              · by_cases r7 : r = 2
                · subst r7
                  show zO d 10 _ = zO d 10 (fun j => if j < nk then some (zBi B ns a hs he b (100 + j)) else Option.none)
                  have : (fun j => if j < nk then some (zBi B ns a hs he b (100 + j)) else Option.none) = (fun j => if j < nk then some (B (100 + j)) else Option.none) := funext fun j => by
                    by_cases hj : j < nk
                    · rw [if_pos hj, if_pos hj, eo (100 + j) (by omega) (by omega) (by omega) (by omega)]
                    · rw [if_neg hj, if_neg hj]
                  rw [this]
                · by_cases r8 : r = 5
                  · subst r8
                    show zob 2 [_, .ref (if ne = 0 then d.2.2 else B 6), _] = zob 2 [_, .ref (if ne = 0 then d.2.2 else zBi B ns a hs he b 6), _]
                    rw [eo 6 (by decide) (by omega) (by omega) (by omega)]
                  · by_cases r9 : r = 6
                    · subst r9
                      show zO d ec _ = zO d ec (fun j => if j < ne then some (zBi B ns a hs he b (500 + j)) else Option.none)
                      have : (fun j => if j < ne then some (zBi B ns a hs he b (500 + j)) else Option.none) = (fun j => if j < ne then some (B (500 + j)) else Option.none) := funext fun j => by rw [eo (500 + j) (by omega) (by omega) (by omega) (by omega)]
                      rw [this]
                    · exact (mcell_B r6 r7 r5 r4 r8 r9 (fun q q1 q2 q3 q4 q5 => eo q q4 (by omega) (by omega) (by omega)) (fun g1 g2 => by unfold mlive at l1; exact ⟨eo _ (by omega) (by omega) (by omega) (by omega), eo _ (by omega) (by omega) (by omega) (by omega)⟩)).symm
  · obtain ⟨i1, i2, i3, i4, i5, i6, i7, i8, i9⟩ := h.2
    have hn : ∀ q, q ≠ 3 → q ≠ 200 + ns → q ≠ 300 + ns → q ≠ 400 + ns → (rset (rset (rset (rset V (200 + ns) w) (300 + ns) u1) (400 + ns) u2) 3 (fun _ => mc)) q = V q := fun q q1 q2 q3 q4 => by rw [rset_n q1, rset_n q4, rset_n q3, rset_n q2]
    refine ⟨i1, by omega, i3, i4, i5, fun q hq => ?_, fun q hq j h1 h2 => ?_, fun q hq => ?_, fun q hq => by rw [hn _ (by omega) (by omega) (by omega) (by omega)]; exact i9 q hq⟩
    · by_cases ek : q = ns
      · subst ek; rw [rset_n (by omega), rset_n (by omega), rset_n (by omega), rset_s]; exact hw
      · rw [hn _ (by omega) (by omega) (by omega) (by omega)]; exact i6 q (by omega)
    · by_cases ek : q = ns
      · subst ek; rw [rset_n (by omega), rset_n (by omega), rset_s]; exact hu j h1 h2
      · rw [hn _ (by omega) (by omega) (by omega) (by omega)]; exact i7 q (by omega) j h1 h2
    · by_cases ek : q = ns
      · subst ek; rw [rset_n (by omega), rset_n (by omega), rset_n (by omega), rset_s]; exact hw5
      · rw [hn _ (by omega) (by omega) (by omega) (by omega)]; exact i8 q (by omega)
  · have f2 : mFr B nk ns ne G (zu G b (zO d 10 f')) := by
      rcases hd with ⟨rfl, h0⟩ | hb
      · exact zM.frput (ml_4 h0) rfl
      · exact mFr.nw zFr.rf hb
    exact f2.tr (zM.frput (ml_s 3) rfl)
theorem mNw.i {a hs he b : Nat} (ha : G a = none) (h1 : G hs = none) (h2 : G he = none) (hb : (b = B 4 ∧ 0 < ns) ∨ G b = none) (hnk : nk ≤ 8) (hns : ns < 6) : mNw B (zBi B ns a hs he b) nk ns ne nk (ns + 1) ne G := by
  have e200 : zBi B ns a hs he b (200 + ns) = a := if_pos rfl
  have e300 : zBi B ns a hs he b (300 + ns) = hs := (if_neg (by omega)).trans (if_pos rfl)
  have e400 : zBi B ns a hs he b (400 + ns) = he := (if_neg (by omega)).trans ((if_neg (by omega)).trans (if_pos rfl))
  have e4 : zBi B ns a hs he b 4 = b := (if_neg (by omega)).trans ((if_neg (by omega)).trans ((if_neg (by omega)).trans (if_pos rfl)))
  have eo : ∀ q, q ≠ 4 → q ≠ 200 + ns → q ≠ 300 + ns → q ≠ 400 + ns → zBi B ns a hs he b q = B q := fun q q1 q2 q3 q4 => (if_neg q2).trans ((if_neg q3).trans ((if_neg q4).trans (if_neg q1)))
  refine ⟨eo 0 (by decide) (by omega) (by omega) (by omega), fun r hr => ?_⟩
  by_cases r1 : r = 200 + ns
  · exact Or.inr (by rw [r1, e200]; exact ha)
  · by_cases r2 : r = 300 + ns
    · exact Or.inr (by rw [r2, e300]; exact h1)
    · by_cases r3 : r = 400 + ns
      · exact Or.inr (by rw [r3, e400]; exact h2)
      · by_cases r4 : r = 4
        · rcases hb with ⟨hb, h0⟩ | hb
          · exact Or.inl ⟨4, ml_4 h0, by rw [r4, e4]; exact hb⟩
          · exact Or.inr (by rw [r4, e4]; exact hb)
        · exact Or.inl ⟨r, by unfold mlive at *; omega, eo r r4 r1 r2 r3⟩
end ZMS

theorem d_Mo_deal_0 : decode c_Mo_deal 0 = .ok (.aload_n 0, 1) := by decide +kernel
theorem d_Mo_deal_1 : decode c_Mo_deal 1 = .ok (.iconst 0, 1) := by decide +kernel
theorem d_Mo_deal_2 : decode c_Mo_deal 2 = .ok (.putfield 36, 3) := by decide +kernel
theorem d_Mo_deal_5 : decode c_Mo_deal 5 = .ok (.iload_n 1, 1) := by decide +kernel
theorem d_Mo_deal_6 : decode c_Mo_deal 6 = .ok (.iconst 0, 1) := by decide +kernel
theorem d_Mo_deal_7 : decode c_Mo_deal 7 = .ok (.bipush 96, 2) := by decide +kernel
theorem d_Mo_deal_9 : decode c_Mo_deal 9 = .ok (.invokestatic 115, 3) := by decide +kernel
theorem d_Mo_deal_12 : decode c_Mo_deal 12 = .ok (.ifCond .eq 51, 3) := by decide +kernel
theorem d_Mo_deal_15 : decode c_Mo_deal 15 = .ok (.iload_n 2, 1) := by decide +kernel
theorem d_Mo_deal_16 : decode c_Mo_deal 16 = .ok (.iconst 1, 1) := by decide +kernel
theorem d_Mo_deal_17 : decode c_Mo_deal 17 = .ok (.iconst 4, 1) := by decide +kernel
theorem d_Mo_deal_18 : decode c_Mo_deal 18 = .ok (.invokestatic 115, 3) := by decide +kernel
theorem d_Mo_deal_21 : decode c_Mo_deal 21 = .ok (.ifCond .eq 42, 3) := by decide +kernel
theorem d_Mo_deal_24 : decode c_Mo_deal 24 = .ok (.iload_n 3, 1) := by decide +kernel
theorem d_Mo_deal_25 : decode c_Mo_deal 25 = .ok (.iconst 1, 1) := by decide +kernel
theorem d_Mo_deal_26 : decode c_Mo_deal 26 = .ok (.iconst 4, 1) := by decide +kernel
theorem d_Mo_deal_27 : decode c_Mo_deal 27 = .ok (.invokestatic 115, 3) := by decide +kernel
theorem d_Mo_deal_30 : decode c_Mo_deal 30 = .ok (.ifCond .eq 33, 3) := by decide +kernel
theorem d_Mo_deal_33 : decode c_Mo_deal 33 = .ok (.iload 4, 2) := by decide +kernel
theorem d_Mo_deal_35 : decode c_Mo_deal 35 = .ok (.iconst 0, 1) := by decide +kernel
theorem d_Mo_deal_36 : decode c_Mo_deal 36 = .ok (.sipush 999, 3) := by decide +kernel
theorem d_Mo_deal_39 : decode c_Mo_deal 39 = .ok (.invokestatic 115, 3) := by decide +kernel
theorem d_Mo_deal_42 : decode c_Mo_deal 42 = .ok (.ifCond .eq 21, 3) := by decide +kernel
theorem d_Mo_deal_45 : decode c_Mo_deal 45 = .ok (.aload_n 0, 1) := by decide +kernel
theorem d_Mo_deal_46 : decode c_Mo_deal 46 = .ok (.iload 5, 2) := by decide +kernel
theorem d_Mo_deal_48 : decode c_Mo_deal 48 = .ok (.invokevirtual 129, 3) := by decide +kernel
theorem d_Mo_deal_51 : decode c_Mo_deal 51 = .ok (.ifCond .eq 12, 3) := by decide +kernel
theorem d_Mo_deal_54 : decode c_Mo_deal 54 = .ok (.iload 5, 2) := by decide +kernel
theorem d_Mo_deal_56 : decode c_Mo_deal 56 = .ok (.invokestatic 66, 3) := by decide +kernel
theorem d_Mo_deal_59 : decode c_Mo_deal 59 = .ok (.iload_n 2, 1) := by decide +kernel
theorem d_Mo_deal_60 : decode c_Mo_deal 60 = .ok (.if_icmp .ge 9, 3) := by decide +kernel
theorem d_Mo_deal_63 : decode c_Mo_deal 63 = .ok (.aload_n 0, 1) := by decide +kernel
theorem d_Mo_deal_64 : decode c_Mo_deal 64 = .ok (.iconst 1, 1) := by decide +kernel
theorem d_Mo_deal_65 : decode c_Mo_deal 65 = .ok (.invokevirtual 119, 3) := by decide +kernel
theorem d_Mo_deal_68 : decode c_Mo_deal 68 = .ok (.ireturn, 1) := by decide +kernel
theorem d_Mo_deal_69 : decode c_Mo_deal 69 = .ok (.aload_n 0, 1) := by decide +kernel
theorem d_Mo_deal_70 : decode c_Mo_deal 70 = .ok (.getfield 20, 3) := by decide +kernel
theorem d_Mo_deal_73 : decode c_Mo_deal 73 = .ok (.invokeinterface 94 1, 5) := by decide +kernel
theorem d_Mo_deal_78 : decode c_Mo_deal 78 = .ok (.bipush 6, 2) := by decide +kernel
theorem d_Mo_deal_80 : decode c_Mo_deal 80 = .ok (.if_icmp .ne 9, 3) := by decide +kernel
theorem d_Mo_deal_83 : decode c_Mo_deal 83 = .ok (.aload_n 0, 1) := by decide +kernel
theorem d_Mo_deal_84 : decode c_Mo_deal 84 = .ok (.iconst 2, 1) := by decide +kernel
theorem d_Mo_deal_85 : decode c_Mo_deal 85 = .ok (.invokevirtual 119, 3) := by decide +kernel
theorem d_Mo_deal_88 : decode c_Mo_deal 88 = .ok (.ireturn, 1) := by decide +kernel
theorem d_Mo_deal_89 : decode c_Mo_deal 89 = .ok (.new 47, 3) := by decide +kernel
theorem d_Mo_deal_92 : decode c_Mo_deal 92 = .ok (.dup, 1) := by decide +kernel
theorem d_Mo_deal_93 : decode c_Mo_deal 93 = .ok (.iload_n 2, 1) := by decide +kernel
theorem d_Mo_deal_94 : decode c_Mo_deal 94 = .ok (.iload_n 3, 1) := by decide +kernel
theorem d_Mo_deal_95 : decode c_Mo_deal 95 = .ok (.iload 4, 2) := by decide +kernel
theorem d_Mo_deal_97 : decode c_Mo_deal 97 = .ok (.invokespecial 132, 3) := by decide +kernel
theorem d_Mo_deal_100 : decode c_Mo_deal 100 = .ok (.astore 6, 2) := by decide +kernel
theorem d_Mo_deal_102 : decode c_Mo_deal 102 = .ok (.iload_n 2, 1) := by decide +kernel
theorem d_Mo_deal_103 : decode c_Mo_deal 103 = .ok (.newarray .int, 2) := by decide +kernel
theorem d_Mo_deal_105 : decode c_Mo_deal 105 = .ok (.astore 7, 2) := by decide +kernel
theorem d_Mo_deal_107 : decode c_Mo_deal 107 = .ok (.aload 7, 2) := by decide +kernel
theorem d_Mo_deal_109 : decode c_Mo_deal 109 = .ok (.iconst 0, 1) := by decide +kernel
theorem d_Mo_deal_110 : decode c_Mo_deal 110 = .ok (.iload_n 1, 1) := by decide +kernel
theorem d_Mo_deal_111 : decode c_Mo_deal 111 = .ok (.iastore, 1) := by decide +kernel
theorem d_Mo_deal_112 : decode c_Mo_deal 112 = .ok (.iconst 1, 1) := by decide +kernel
theorem d_Mo_deal_113 : decode c_Mo_deal 113 = .ok (.istore 8, 2) := by decide +kernel
theorem d_Mo_deal_115 : decode c_Mo_deal 115 = .ok (.iload 8, 2) := by decide +kernel
theorem d_Mo_deal_117 : decode c_Mo_deal 117 = .ok (.iload_n 2, 1) := by decide +kernel
theorem d_Mo_deal_118 : decode c_Mo_deal 118 = .ok (.if_icmp .ge 18, 3) := by decide +kernel
theorem d_Mo_deal_121 : decode c_Mo_deal 121 = .ok (.aload 7, 2) := by decide +kernel
theorem d_Mo_deal_123 : decode c_Mo_deal 123 = .ok (.iload 8, 2) := by decide +kernel
theorem d_Mo_deal_125 : decode c_Mo_deal 125 = .ok (.aload_n 0, 1) := by decide +kernel
theorem d_Mo_deal_126 : decode c_Mo_deal 126 = .ok (.invokevirtual 133, 3) := by decide +kernel
theorem d_Mo_deal_129 : decode c_Mo_deal 129 = .ok (.iastore, 1) := by decide +kernel
theorem d_Mo_deal_130 : decode c_Mo_deal 130 = .ok (.iinc 8 1, 3) := by decide +kernel
theorem d_Mo_deal_133 : decode c_Mo_deal 133 = .ok (.goto (-18), 3) := by decide +kernel
theorem d_Mo_deal_136 : decode c_Mo_deal 136 = .ok (.iconst 0, 1) := by decide +kernel
theorem d_Mo_deal_137 : decode c_Mo_deal 137 = .ok (.istore 8, 2) := by decide +kernel
theorem d_Mo_deal_139 : decode c_Mo_deal 139 = .ok (.iload 8, 2) := by decide +kernel
theorem d_Mo_deal_141 : decode c_Mo_deal 141 = .ok (.bipush 8, 2) := by decide +kernel
theorem d_Mo_deal_143 : decode c_Mo_deal 143 = .ok (.if_icmp .ge 48, 3) := by decide +kernel
theorem d_Mo_deal_146 : decode c_Mo_deal 146 = .ok (.iload 5, 2) := by decide +kernel
theorem d_Mo_deal_148 : decode c_Mo_deal 148 = .ok (.iload 8, 2) := by decide +kernel
theorem d_Mo_deal_150 : decode c_Mo_deal 150 = .ok (.invokestatic 76, 3) := by decide +kernel
theorem d_Mo_deal_153 : decode c_Mo_deal 153 = .ok (.ifCond .ne 6, 3) := by decide +kernel
theorem d_Mo_deal_156 : decode c_Mo_deal 156 = .ok (.goto 29, 3) := by decide +kernel
theorem d_Mo_deal_159 : decode c_Mo_deal 159 = .ok (.aload 6, 2) := by decide +kernel
theorem d_Mo_deal_161 : decode c_Mo_deal 161 = .ok (.getfield 46, 3) := by decide +kernel
theorem d_Mo_deal_164 : decode c_Mo_deal 164 = .ok (.iload 8, 2) := by decide +kernel
theorem d_Mo_deal_166 : decode c_Mo_deal 166 = .ok (.aload 7, 2) := by decide +kernel
theorem d_Mo_deal_168 : decode c_Mo_deal 168 = .ok (.iload 8, 2) := by decide +kernel
theorem d_Mo_deal_170 : decode c_Mo_deal 170 = .ok (.iconst 1, 1) := by decide +kernel
theorem d_Mo_deal_171 : decode c_Mo_deal 171 = .ok (.iadd, 1) := by decide +kernel
theorem d_Mo_deal_172 : decode c_Mo_deal 172 = .ok (.invokestatic 136, 3) := by decide +kernel
theorem d_Mo_deal_175 : decode c_Mo_deal 175 = .ok (.iastore, 1) := by decide +kernel
theorem d_Mo_deal_176 : decode c_Mo_deal 176 = .ok (.aload 6, 2) := by decide +kernel
theorem d_Mo_deal_178 : decode c_Mo_deal 178 = .ok (.getfield 140, 3) := by decide +kernel
theorem d_Mo_deal_181 : decode c_Mo_deal 181 = .ok (.iload 8, 2) := by decide +kernel
theorem d_Mo_deal_183 : decode c_Mo_deal 183 = .ok (.iconst 0, 1) := by decide +kernel
theorem d_Mo_deal_184 : decode c_Mo_deal 184 = .ok (.iastore, 1) := by decide +kernel
theorem d_Mo_deal_185 : decode c_Mo_deal 185 = .ok (.iinc 8 1, 3) := by decide +kernel
theorem d_Mo_deal_188 : decode c_Mo_deal 188 = .ok (.goto (-49), 3) := by decide +kernel
theorem d_Mo_deal_191 : decode c_Mo_deal 191 = .ok (.aload_n 0, 1) := by decide +kernel
theorem d_Mo_deal_192 : decode c_Mo_deal 192 = .ok (.getfield 20, 3) := by decide +kernel
theorem d_Mo_deal_195 : decode c_Mo_deal 195 = .ok (.aload 6, 2) := by decide +kernel
theorem d_Mo_deal_197 : decode c_Mo_deal 197 = .ok (.invokeinterface 111 2, 5) := by decide +kernel
theorem d_Mo_deal_202 : decode c_Mo_deal 202 = .ok (.pop, 1) := by decide +kernel
theorem d_Mo_deal_203 : decode c_Mo_deal 203 = .ok (.aload_n 0, 1) := by decide +kernel
theorem d_Mo_deal_204 : decode c_Mo_deal 204 = .ok (.iconst 0, 1) := by decide +kernel
theorem d_Mo_deal_205 : decode c_Mo_deal 205 = .ok (.aload_n 0, 1) := by decide +kernel
theorem d_Mo_deal_206 : decode c_Mo_deal 206 = .ok (.getfield 20, 3) := by decide +kernel
theorem d_Mo_deal_209 : decode c_Mo_deal 209 = .ok (.invokeinterface 94 1, 5) := by decide +kernel
theorem d_Mo_deal_214 : decode c_Mo_deal 214 = .ok (.iconst 1, 1) := by decide +kernel
theorem d_Mo_deal_215 : decode c_Mo_deal 215 = .ok (.isub, 1) := by decide +kernel
theorem d_Mo_deal_216 : decode c_Mo_deal 216 = .ok (.invokevirtual 143, 3) := by decide +kernel
theorem d_Mo_deal_219 : decode c_Mo_deal 219 = .ok (.aload_n 0, 1) := by decide +kernel
theorem d_Mo_deal_220 : decode c_Mo_deal 220 = .ok (.getfield 20, 3) := by decide +kernel
theorem d_Mo_deal_223 : decode c_Mo_deal 223 = .ok (.invokeinterface 94 1, 5) := by decide +kernel
theorem d_Mo_deal_228 : decode c_Mo_deal 228 = .ok (.iconst 1, 1) := by decide +kernel
theorem d_Mo_deal_229 : decode c_Mo_deal 229 = .ok (.isub, 1) := by decide +kernel
theorem d_Mo_deal_230 : decode c_Mo_deal 230 = .ok (.ireturn, 1) := by decide +kernel
set_option maxHeartbeats 4000000 in
set_option maxRecDepth 100000 in
theorem m_Mo_deal {g0 : State} {d : zD} {l : Launch} {a0 : Array Value} (hs0 : zS0 d a0 g0) (hst : l.stackTraces = false) {G : zG} {B : Nat → Nat} {V : Nat → Nat → Int32} {nk ns ne ec : Nat} (hM : zM d B V nk ns ne ec G) (x t z dt set : Int32) : zMet g0 d l y_Mo_deal c_Mo_deal 9 ((Option.some Jvm.ClassFile.FieldType.int)) 10 8 300 [.ref (B 0), .int x, .int t, .int z, .int dt, .int set] (G) (fun r G1 => (zdok nk x t z dt set = false ∧ r = some (.int 0) ∧ ∃ V', zM d B V' nk ns ne ec G1 ∧ V' 0 0 = 1 ∧ zKn V V' ∧ mFr B nk ns ne G G1) ∨ (zdok nk x t z dt set = true ∧ ns = 6 ∧ r = some (.int 0) ∧ ∃ V', zM d B V' nk ns ne ec G1 ∧ V' 0 0 = 2 ∧ zKn V V' ∧ mFr B nk ns ne G G1) ∨ (zdok nk x t z dt set = true ∧ ns < 6 ∧ r = some (.int (nI ns)) ∧ ∃ B' V' ne' ec', zM d B' V' nk (ns + 1) ne' ec' G1 ∧ mNw B B' nk ns ne nk (ns + 1) ne' G ∧ V' 0 0 = 0 ∧ (∀ r j, zmo_ r j → ¬ (r = 0 ∧ j = 0) → r ≠ 200 + ns → V' r j = V r j) ∧ (V' (200 + ns) 0 = t ∧ V' (200 + ns) 1 = z ∧ V' (200 + ns) 2 = dt ∧ V' (200 + ns) 4 = 0) ∧ mFr B nk ns ne G G1)) (zNo) := by
  have hnk : nk ≤ 8 := hM.2.1
  have hns : ns ≤ 6 := hM.2.2.1
  have hne : ne ≤ 64 := hM.2.2.2.1
  have hp2 : 2 ^ nk ≤ 256 := Nat.pow_le_pow_right (n := 2) (by decide) hnk
  refine z_entry hs0 hst (by decide) (Nat.le_of_ble_eq_true rfl) (fun p e s m args below meth c => ?_)
  refine z_aload_n 0 d_Mo_deal_0 rfl rfl ?_
  refine z_iconst (v := 0) d_Mo_deal_1 (by decide) ?_
  refine z_put zc_Mo 0 (by decide) qF_Mo_36 hM.mo rfl rfl rfl (Nat.le_of_ble_eq_true rfl) d_Mo_deal_2 ?_
  obtain ⟨V1, hM1, hK1, hF1, hT1⟩ := hM.putT 0
  refine z_iload_n 1 d_Mo_deal_5 rfl rfl ?_
  refine z_iconst (v := 0) d_Mo_deal_6 (by decide) ?_
  refine z_bipush (v := 96) d_Mo_deal_7 (by decide) ?_
  refine z_callS0 (m_Mo_in hs0 hst x 0 _) ym_Mo_in qM_Mo_115 qS_Mo_in d_Mo_deal_9 rfl (Nat.le_of_ble_eq_true rfl) ⟨by decide, by decide⟩ ⟨Nat.le_of_ble_eq_true rfl, Nat.le_of_ble_eq_true rfl⟩ ?_
  refine z_if_eq 63 d_Mo_deal_12 (by decide) (fun c_12 => ?_) (fun c_12 => ?_)
  · skip
    refine z_aload_n 0 d_Mo_deal_63 rfl rfl ?_
    refine z_iconst (v := 1) d_Mo_deal_64 (by decide) ?_
    refine z_callV0 (m_Mo_no hs0 hst hM1.mo 1) ym_Mo_no qM_Mo_119 qI_Mo_no qV_Mo_Mo_no zc_Mo hM1.mo d_Mo_deal_65 rfl (Nat.le_of_ble_eq_true rfl) ⟨by decide, by decide⟩ ⟨Nat.le_of_ble_eq_true rfl, Nat.le_of_ble_eq_true rfl⟩ ?_
    obtain ⟨V9, hM9, hK9, hF9, hT9⟩ := hM1.putT 1
    exact z_iret rfl (Or.inl ⟨by unfold zdok; first | (rw [(zb_0 _).mp c_12]; rfl) | (rw [(zb_0 _).mp c_21, Bool.false_and, Bool.and_false]) | (rw [(zb_0 _).mp c_30, Bool.false_and, Bool.and_false, Bool.and_false]) | (rw [(zb_0 _).mp c_42, Bool.false_and, Bool.and_false, Bool.and_false, Bool.and_false]) | (rw [(zb_0 _).mp c_51, Bool.false_and, Bool.and_false, Bool.and_false, Bool.and_false, Bool.and_false]) | (rw [zbc_512 g (by omega), decide_eq_false c_60, Bool.and_false, Bool.and_false, Bool.and_false, Bool.and_false, Bool.and_false]), rfl, V9, hM9, hT9, hK1.tr hK9, hF1.tr hF9⟩) (by first | decide | omega) (by first | decide | omega) d_Mo_deal_68
  · skip
    refine z_iload_n 2 d_Mo_deal_15 rfl rfl ?_
    refine z_iconst (v := 1) d_Mo_deal_16 (by decide) ?_
    refine z_iconst (v := 4) d_Mo_deal_17 (by decide) ?_
    refine z_callS0 (m_Mo_in hs0 hst t 1 _) ym_Mo_in qM_Mo_115 qS_Mo_in d_Mo_deal_18 rfl (Nat.le_of_ble_eq_true rfl) ⟨by decide, by decide⟩ ⟨Nat.le_of_ble_eq_true rfl, Nat.le_of_ble_eq_true rfl⟩ ?_
    refine z_if_eq 63 d_Mo_deal_21 (by decide) (fun c_21 => ?_) (fun c_21 => ?_)
    · skip
      refine z_aload_n 0 d_Mo_deal_63 rfl rfl ?_
      refine z_iconst (v := 1) d_Mo_deal_64 (by decide) ?_
      refine z_callV0 (m_Mo_no hs0 hst hM1.mo 1) ym_Mo_no qM_Mo_119 qI_Mo_no qV_Mo_Mo_no zc_Mo hM1.mo d_Mo_deal_65 rfl (Nat.le_of_ble_eq_true rfl) ⟨by decide, by decide⟩ ⟨Nat.le_of_ble_eq_true rfl, Nat.le_of_ble_eq_true rfl⟩ ?_
      obtain ⟨V9, hM9, hK9, hF9, hT9⟩ := hM1.putT 1
      exact z_iret rfl (Or.inl ⟨by unfold zdok; first | (rw [(zb_0 _).mp c_12]; rfl) | (rw [(zb_0 _).mp c_21, Bool.false_and, Bool.and_false]) | (rw [(zb_0 _).mp c_30, Bool.false_and, Bool.and_false, Bool.and_false]) | (rw [(zb_0 _).mp c_42, Bool.false_and, Bool.and_false, Bool.and_false, Bool.and_false]) | (rw [(zb_0 _).mp c_51, Bool.false_and, Bool.and_false, Bool.and_false, Bool.and_false, Bool.and_false]) | (rw [zbc_512 g (by omega), decide_eq_false c_60, Bool.and_false, Bool.and_false, Bool.and_false, Bool.and_false, Bool.and_false]), rfl, V9, hM9, hT9, hK1.tr hK9, hF1.tr hF9⟩) (by first | decide | omega) (by first | decide | omega) d_Mo_deal_68
    · skip
      refine z_iload_n 3 d_Mo_deal_24 rfl rfl ?_
      refine z_iconst (v := 1) d_Mo_deal_25 (by decide) ?_
      refine z_iconst (v := 4) d_Mo_deal_26 (by decide) ?_
      refine z_callS0 (m_Mo_in hs0 hst z 1 _) ym_Mo_in qM_Mo_115 qS_Mo_in d_Mo_deal_27 rfl (Nat.le_of_ble_eq_true rfl) ⟨by decide, by decide⟩ ⟨Nat.le_of_ble_eq_true rfl, Nat.le_of_ble_eq_true rfl⟩ ?_
      refine z_if_eq 63 d_Mo_deal_30 (by decide) (fun c_30 => ?_) (fun c_30 => ?_)
      · skip
        refine z_aload_n 0 d_Mo_deal_63 rfl rfl ?_
        refine z_iconst (v := 1) d_Mo_deal_64 (by decide) ?_
        refine z_callV0 (m_Mo_no hs0 hst hM1.mo 1) ym_Mo_no qM_Mo_119 qI_Mo_no qV_Mo_Mo_no zc_Mo hM1.mo d_Mo_deal_65 rfl (Nat.le_of_ble_eq_true rfl) ⟨by decide, by decide⟩ ⟨Nat.le_of_ble_eq_true rfl, Nat.le_of_ble_eq_true rfl⟩ ?_
        obtain ⟨V9, hM9, hK9, hF9, hT9⟩ := hM1.putT 1
        exact z_iret rfl (Or.inl ⟨by unfold zdok; first | (rw [(zb_0 _).mp c_12]; rfl) | (rw [(zb_0 _).mp c_21, Bool.false_and, Bool.and_false]) | (rw [(zb_0 _).mp c_30, Bool.false_and, Bool.and_false, Bool.and_false]) | (rw [(zb_0 _).mp c_42, Bool.false_and, Bool.and_false, Bool.and_false, Bool.and_false]) | (rw [(zb_0 _).mp c_51, Bool.false_and, Bool.and_false, Bool.and_false, Bool.and_false, Bool.and_false]) | (rw [zbc_512 g (by omega), decide_eq_false c_60, Bool.and_false, Bool.and_false, Bool.and_false, Bool.and_false, Bool.and_false]), rfl, V9, hM9, hT9, hK1.tr hK9, hF1.tr hF9⟩) (by first | decide | omega) (by first | decide | omega) d_Mo_deal_68
      · skip
        refine z_iload 4 d_Mo_deal_33 rfl ?_
        refine z_iconst (v := 0) d_Mo_deal_35 (by decide) ?_
        refine z_sipush (v := 999) d_Mo_deal_36 (by decide) ?_
        refine z_callS0 (m_Mo_in hs0 hst dt 0 _) ym_Mo_in qM_Mo_115 qS_Mo_in d_Mo_deal_39 rfl (Nat.le_of_ble_eq_true rfl) ⟨by decide, by decide⟩ ⟨Nat.le_of_ble_eq_true rfl, Nat.le_of_ble_eq_true rfl⟩ ?_
        refine z_if_eq 63 d_Mo_deal_42 (by decide) (fun c_42 => ?_) (fun c_42 => ?_)
        · skip
          refine z_aload_n 0 d_Mo_deal_63 rfl rfl ?_
          refine z_iconst (v := 1) d_Mo_deal_64 (by decide) ?_
          refine z_callV0 (m_Mo_no hs0 hst hM1.mo 1) ym_Mo_no qM_Mo_119 qI_Mo_no qV_Mo_Mo_no zc_Mo hM1.mo d_Mo_deal_65 rfl (Nat.le_of_ble_eq_true rfl) ⟨by decide, by decide⟩ ⟨Nat.le_of_ble_eq_true rfl, Nat.le_of_ble_eq_true rfl⟩ ?_
          obtain ⟨V9, hM9, hK9, hF9, hT9⟩ := hM1.putT 1
          exact z_iret rfl (Or.inl ⟨by unfold zdok; first | (rw [(zb_0 _).mp c_12]; rfl) | (rw [(zb_0 _).mp c_21, Bool.false_and, Bool.and_false]) | (rw [(zb_0 _).mp c_30, Bool.false_and, Bool.and_false, Bool.and_false]) | (rw [(zb_0 _).mp c_42, Bool.false_and, Bool.and_false, Bool.and_false, Bool.and_false]) | (rw [(zb_0 _).mp c_51, Bool.false_and, Bool.and_false, Bool.and_false, Bool.and_false, Bool.and_false]) | (rw [zbc_512 g (by omega), decide_eq_false c_60, Bool.and_false, Bool.and_false, Bool.and_false, Bool.and_false, Bool.and_false]), rfl, V9, hM9, hT9, hK1.tr hK9, hF1.tr hF9⟩) (by first | decide | omega) (by first | decide | omega) d_Mo_deal_68
        · skip
          refine z_aload_n 0 d_Mo_deal_45 rfl rfl ?_
          refine z_iload 5 d_Mo_deal_46 rfl ?_
          refine z_callV0 (m_Mo_isSet hs0 hst hM1 set) ym_Mo_isSet qM_Mo_129 qI_Mo_isSet qV_Mo_Mo_isSet zc_Mo hM1.mo d_Mo_deal_48 rfl (Nat.le_of_ble_eq_true rfl) ⟨by decide, by decide⟩ ⟨Nat.le_of_ble_eq_true rfl, Nat.le_of_ble_eq_true rfl⟩ ?_
          refine z_if_eq 63 d_Mo_deal_51 (by decide) (fun c_51 => ?_) (fun c_51 => ?_)
          · skip
            refine z_aload_n 0 d_Mo_deal_63 rfl rfl ?_
            refine z_iconst (v := 1) d_Mo_deal_64 (by decide) ?_
            refine z_callV0 (m_Mo_no hs0 hst hM1.mo 1) ym_Mo_no qM_Mo_119 qI_Mo_no qV_Mo_Mo_no zc_Mo hM1.mo d_Mo_deal_65 rfl (Nat.le_of_ble_eq_true rfl) ⟨by decide, by decide⟩ ⟨Nat.le_of_ble_eq_true rfl, Nat.le_of_ble_eq_true rfl⟩ ?_
            obtain ⟨V9, hM9, hK9, hF9, hT9⟩ := hM1.putT 1
            exact z_iret rfl (Or.inl ⟨by unfold zdok; first | (rw [(zb_0 _).mp c_12]; rfl) | (rw [(zb_0 _).mp c_21, Bool.false_and, Bool.and_false]) | (rw [(zb_0 _).mp c_30, Bool.false_and, Bool.and_false, Bool.and_false]) | (rw [(zb_0 _).mp c_42, Bool.false_and, Bool.and_false, Bool.and_false, Bool.and_false]) | (rw [(zb_0 _).mp c_51, Bool.false_and, Bool.and_false, Bool.and_false, Bool.and_false, Bool.and_false]) | (rw [zbc_512 g (by omega), decide_eq_false c_60, Bool.and_false, Bool.and_false, Bool.and_false, Bool.and_false, Bool.and_false]), rfl, V9, hM9, hT9, hK1.tr hK9, hF1.tr hF9⟩) (by first | decide | omega) (by first | decide | omega) d_Mo_deal_68
          · skip
            obtain ⟨g, hg, rfl⟩ := zsetok_le hnk ((zb_n0 _).mp c_51)
            refine z_iload 5 d_Mo_deal_54 rfl ?_
            refine z_callS0 ((m_Mo_size hs0 hst (nn := g) (by omega))) ym_Mo_size qM_Mo_66 qS_Mo_size d_Mo_deal_56 rfl (Nat.le_of_ble_eq_true rfl) ⟨by decide, by decide⟩ ⟨Nat.le_of_ble_eq_true rfl, Nat.le_of_ble_eq_true rfl⟩ ?_
            refine z_iload_n 2 d_Mo_deal_59 rfl rfl ?_
            refine z_icmp_ge 69 d_Mo_deal_60 (by decide) (fun c_60 => ?_) (fun c_60 => ?_)
            · skip
              have hok : zdok nk x t z dt (nI g) = true := by
                unfold zdok
                rw [(zb_n0 _).mp c_12, (zb_n0 _).mp c_21, (zb_n0 _).mp c_30, (zb_n0 _).mp c_42, (zb_n0 _).mp c_51, zbc_512 g (by omega), decide_eq_true c_60]
                rfl
              refine z_aload_n 0 d_Mo_deal_69 rfl rfl ?_
              refine z_get zc_Mo 7 (by decide) qF_Mo_20 hM1.mo rfl d_Mo_deal_70 ?_
              refine z_callF0 (m_AL_size hs0 hst hM1.sl) ym_AL_size zF_AL_size qM_Mo_94 zc_AL hM1.sl d_Mo_deal_73 rfl (Nat.le_of_ble_eq_true rfl) ⟨by decide, by decide⟩ ⟨Nat.le_of_ble_eq_true rfl, Nat.le_of_ble_eq_true rfl⟩ ?_
              refine z_bipush (v := (nI 6)) d_Mo_deal_78 (by decide) ?_
              refine z_icmp_ne 89 d_Mo_deal_80 (by decide) (fun c_80 => ?_) (fun c_80 => ?_)
              · skip
                have hk6 : ns < 6 := Nat.lt_of_le_of_ne hns fun e => c_80 (by rw [e])
                obtain ⟨tn, ht1, ht4, rfl⟩ := zin14 ((zb_n0 _).mp c_21)
                refine z_new (fs := [.int 0, .int 0, .int 0, .int 0, .int 0, .int 0, .null, .null]) zc_MS qK_Mo_47 qO_MS qN_MS (by decide) ⟨by decide, by decide⟩ d_Mo_deal_89 (fun a ha hab => ?_)
                refine z_dup d_Mo_deal_92 rfl ?_
                refine z_iload_n 2 d_Mo_deal_93 rfl rfl ?_
                refine z_iload_n 3 d_Mo_deal_94 rfl rfl ?_
                refine z_iload 4 d_Mo_deal_95 rfl ?_
                refine z_callIp1 (m_MS_init hs0 hst (nI tn) z dt zu_s) ym_MS_init rfl qM_Mo_132 qI_MS_init d_Mo_deal_97 rfl (Nat.le_of_ble_eq_true rfl) ⟨by decide, by decide⟩ ⟨Nat.le_of_ble_eq_true rfl, Nat.le_of_ble_eq_true rfl⟩ (fun r_97 G_97 hp_97 => ?_)
                obtain ⟨hr_97, hs, he, hn1, hn2, m1, m2, m3, hg_97⟩ := hp_97
                obtain rfl : r_97 = none := hr_97
                have hn1' : (zu G (B 0) (zmh B 0 (V 0 1) (V 0 2) (V 0 3) (V 0 4) (V 0 5))) hs = none := by rw [zu_n m1.symm] at hn1; exact hn1
                have hn2' : (zu G (B 0) (zmh B 0 (V 0 1) (V 0 2) (V 0 3) (V 0 4) (V 0 5))) he = none := by rw [zu_n m2.symm] at hn2; exact hn2
                have ho : ∀ r, mlive nk ns ne r → B r ≠ a ∧ B r ≠ hs ∧ B r ≠ he := fun r hr => ⟨hM1.nn_ ha r hr, hM1.nn_ hn1' r hr, hM1.nn_ hn2' r hr⟩
                have hM2 : zM d B V1 nk ns ne ec G_97 := by
                  rw [hg_97]
                  exact (((hM1.out (fun r hr => (ho r hr).1)).out (fun r hr => (ho r hr).1)).out (fun r hr => (ho r hr).2.1)).out (fun r hr => (ho r hr).2.2)
                have hS2 : zMs d a hs he (nI tn) z dt 0 0 0 (zfl 8) (zfl 8) G_97 := by
                  rw [hg_97]
                  exact ⟨(zu_n m2).trans ((zu_n m1).trans zu_s), (zu_n m3).trans zu_s, zu_s, m3⟩
                have ha0 : G a = none := hF1.none_ hM1 ha
                have hhs0 : G hs = none := hF1.none_ hM1 hn1'
                have hhe0 : G he = none := hF1.none_ hM1 hn2'
                have hF2 : mFr B nk ns ne G G_97 := by
                  rw [hg_97]
                  exact (((hF1.nw ha0).nw ha0).nw hhs0).nw hhe0
                obtain ⟨V2, eV2⟩ : ∃ v, v = V1 := ⟨_, rfl⟩
                rw [← eV2] at hM2
                have hK2 : zKm V1 V2 := by rw [eV2]; exact zKm.rf
                refine z_astore (L' := [(6, _), (0, _), (1, _), (2, _), (3, _), (4, _), (5, _)]) d_Mo_deal_100 (by decide) rfl ?_
                refine z_iload_n 3 d_Mo_deal_102 rfl rfl ?_
                refine z_newaI tn qA_int (nI_pos (by omega)) (nI_clamp (by omega)) (by show tn * 4 ≤ _; omega) ⟨by decide, by show _ + tn ≤ 300; omega⟩ d_Mo_deal_103 (fun ac hac hacb => ?_)
                refine z_widen (k := 4) (n := 28) (by omega) (by show 0 + 8 + 16 + tn ≤ 28; omega) ?_
                have hoc : ∀ r, mlive nk ns ne r → B r ≠ ac := hM2.nn_ hac
                have hac0 : G ac = none := hF2.none_ hM2 hac
                have hnc : ac ≠ a ∧ ac ≠ hs ∧ ac ≠ he := ⟨(ne_of_none hS2.1 hac).symm, (ne_of_none hS2.2.1 hac).symm, (ne_of_none hS2.2.2.1 hac).symm⟩
                refine z_astore (L' := [(7, _), (6, _), (0, _), (1, _), (2, _), (3, _), (4, _), (5, _)]) d_Mo_deal_105 (by decide) rfl ?_
                refine z_aload 0 d_Mo_deal_107 rfl ?_
                refine z_iconst (v := (nI 0)) d_Mo_deal_109 (by decide) ?_
                refine z_iload_n 3 d_Mo_deal_110 rfl rfl ?_
                refine z_iastN zu_s (show 0 < tn by omega) (by omega) d_Mo_deal_111 ?_
                refine z_one ?_
                refine z_iconst (v := (nI 1)) d_Mo_deal_112 (by decide) ?_
                refine z_istore (L' := [(8, _), (7, _), (6, _), (0, _), (1, _), (2, _), (3, _), (4, _), (5, _)]) d_Mo_deal_113 (by decide) rfl ?_
                have key_115 : ∀ (n : Nat) (i : Nat) (G2 : zG) (V2 : Nat → Nat → Int32) (fc : Nat → Int32), tn - i < n → (i ≤ tn) → (zM d B V2 nk ns ne ec G2) → (zKm V1 V2) → (mFr B nk ns ne G G2) → (zMs d a hs he (nI tn) z dt 0 0 0 (zfl 8) (zfl 8) G2) → (G2 ac = some (zI d tn fc)) → Z g0 d y_Mo_deal c_Mo_deal 9 ((Option.some Jvm.ClassFile.FieldType.int)) [] p l e (zR 10 8 300) s m args below meth c (vx_MQ below (zQc g0 d (fun r G1 => (zdok nk x (nI tn) z dt (nI g) = false ∧ r = some (.int 0) ∧ ∃ V', zM d B V' nk ns ne ec G1 ∧ V' 0 0 = 1 ∧ zKn V V' ∧ mFr B nk ns ne G G1) ∨ (zdok nk x (nI tn) z dt (nI g) = true ∧ ns = 6 ∧ r = some (.int 0) ∧ ∃ V', zM d B V' nk ns ne ec G1 ∧ V' 0 0 = 2 ∧ zKn V V' ∧ mFr B nk ns ne G G1) ∨ (zdok nk x (nI tn) z dt (nI g) = true ∧ ns < 6 ∧ r = some (.int (nI ns)) ∧ ∃ B' V' ne' ec', zM d B' V' nk (ns + 1) ne' ec' G1 ∧ mNw B B' nk ns ne nk (ns + 1) ne' G ∧ V' 0 0 = 0 ∧ (∀ r j, zmo_ r j → ¬ (r = 0 ∧ j = 0) → r ≠ 200 + ns → V' r j = V r j) ∧ (V' (200 + ns) 0 = nI tn ∧ V' (200 + ns) 1 = z ∧ V' (200 + ns) 2 = dt ∧ V' (200 + ns) 4 = 0) ∧ mFr B nk ns ne G G1))) (zXc g0 d (zNo)) args s 8 300 (zA g0)) 4 28 (G2) [(8, .int (nI i)), (7, .ref ac), (6, .ref a), (0, .ref (B 0)), (1, .int x), (2, .int (nI tn)), (3, .int z), (4, .int dt), (5, .int (nI g))] [] 115 := by
                  intro n
                  induction n with
                  | zero => intro i G2 V2 fc h0; exact absurd h0 (Nat.not_lt_zero _)
                  | succ n ih_115 =>
                    intro i G2 V2 fc hm_115 hi hM2 hK2 hF2 hS2 hA2
                    refine z_iload 0 d_Mo_deal_115 rfl ?_
                    refine z_iload_n 5 d_Mo_deal_117 rfl rfl ?_
                    refine z_icmp_ge 136 d_Mo_deal_118 (by decide) (fun c_118 => ?_) (fun c_118 => ?_)
                    · skip
                      refine z_iconst (v := (nI 0)) d_Mo_deal_136 (by decide) ?_
                      refine z_istore (L' := [(8, _), (7, _), (6, _), (0, _), (1, _), (2, _), (3, _), (4, _), (5, _)]) d_Mo_deal_137 (by decide) rfl ?_
                      have key_139 : ∀ (n : Nat) (i : Nat) (G2 : zG) (V2 : Nat → Nat → Int32) (u1 u2 : Nat → Int32), 8 - i < n → (i ≤ 8) → (zM d B V2 nk ns ne ec G2) → (zKm V1 V2) → (mFr B nk ns ne G G2) → (zMs d a hs he (nI tn) z dt 0 0 0 u1 u2 G2) → (G2 ac = some (zI d tn fc)) → (∀ j, nk ≤ j → j < 8 → u1 j = -1) → Z g0 d y_Mo_deal c_Mo_deal 9 ((Option.some Jvm.ClassFile.FieldType.int)) [] p l e (zR 10 8 300) s m args below meth c (vx_MQ below (zQc g0 d (fun r G1 => (zdok nk x (nI tn) z dt (nI g) = false ∧ r = some (.int 0) ∧ ∃ V', zM d B V' nk ns ne ec G1 ∧ V' 0 0 = 1 ∧ zKn V V' ∧ mFr B nk ns ne G G1) ∨ (zdok nk x (nI tn) z dt (nI g) = true ∧ ns = 6 ∧ r = some (.int 0) ∧ ∃ V', zM d B V' nk ns ne ec G1 ∧ V' 0 0 = 2 ∧ zKn V V' ∧ mFr B nk ns ne G G1) ∨ (zdok nk x (nI tn) z dt (nI g) = true ∧ ns < 6 ∧ r = some (.int (nI ns)) ∧ ∃ B' V' ne' ec', zM d B' V' nk (ns + 1) ne' ec' G1 ∧ mNw B B' nk ns ne nk (ns + 1) ne' G ∧ V' 0 0 = 0 ∧ (∀ r j, zmo_ r j → ¬ (r = 0 ∧ j = 0) → r ≠ 200 + ns → V' r j = V r j) ∧ (V' (200 + ns) 0 = nI tn ∧ V' (200 + ns) 1 = z ∧ V' (200 + ns) 2 = dt ∧ V' (200 + ns) 4 = 0) ∧ mFr B nk ns ne G G1))) (zXc g0 d (zNo)) args s 8 300 (zA g0)) 4 28 (G2) [(8, .int (nI i)), (7, .ref ac), (6, .ref a), (0, .ref (B 0)), (1, .int x), (2, .int (nI tn)), (3, .int z), (4, .int dt), (5, .int (nI g))] [] 139 := by
                        intro n
                        induction n with
                        | zero => intro i G2 V2 u1 u2 h0; exact absurd h0 (Nat.not_lt_zero _)
                        | succ n ih_139 =>
                          intro i G2 V2 u1 u2 hm_139 hi hM2 hK2 hF2 hS2 hA2 hu1
                          refine z_iload 0 d_Mo_deal_139 rfl ?_
                          refine z_bipush (v := 8) d_Mo_deal_141 (by decide) ?_
                          refine z_icmp_ge 191 d_Mo_deal_143 (by decide) (fun c_143 => ?_) (fun c_143 => ?_)
                          · skip
                            refine z_aload_n 3 d_Mo_deal_191 rfl rfl ?_
                            refine z_get zc_Mo 7 (by decide) qF_Mo_20 hM2.mo rfl d_Mo_deal_192 ?_
                            refine z_aload 2 d_Mo_deal_195 rfl ?_
                            refine z_callFp1 ((m_AL_addM hs0 hst hM2.sl hM2.sq.1 hM2.sq.2 (Or.inl ⟨11, _, _, _, _, _, zc_MS, qT_MS_Oj, hS2.1⟩))) ym_AL_add_1 zF_AL_add_1 qM_Mo_111 zc_AL hM2.sl d_Mo_deal_197 rfl (Nat.le_of_ble_eq_true rfl) ⟨by decide, by decide⟩ ⟨Nat.le_of_ble_eq_true rfl, Nat.le_of_ble_eq_true rfl⟩ (fun r_197 G_197 hp_197 => ?_)
                            obtain ⟨hr_197, b, cap', f', hd9, hf1, hf2, hf3, hg_197⟩ := hp_197
                            obtain rfl : r_197 = some (.int 1) := hr_197
                            have hd8 : (b = B 4 ∧ 0 < ns) ∨ G2 b = none := by
                              rcases hd9 with ⟨q1, q2, -⟩ | ⟨q1, -⟩
                              · exact Or.inl ⟨q1, q2⟩
                              · exact Or.inr q1
                            have hcap : cap' = 10 := by
                              rcases hd9 with ⟨-, -, q1, -⟩ | ⟨-, -, q1⟩ <;> omega
                            subst hcap
                            have hfe : f' = fun j => if j < ns + 1 then some (zBi B ns a hs he b (200 + j)) else none := funext fun j => by
                              by_cases e1 : j < ns
                              · rw [if_pos (by omega), hf1 j e1]
                                refine (if_pos e1).trans ?_
                                exact congrArg some ((if_neg (by omega)).trans ((if_neg (by omega)).trans ((if_neg (by omega)).trans (if_neg (by omega))))).symm
                              · by_cases e2 : j = ns
                                · subst e2
                                  rw [if_pos (by omega), hf2]
                                  exact congrArg some (if_pos rfl).symm
                                · rw [if_neg (by omega)]
                                  exact hf3 j (by omega) (fun i hi => if_neg (by omega))
                            have hnw := hM2.newi hk6 (w := zs6n (nI tn) z dt 0 0 0) ⟨tn, ht1, ht4, rfl⟩ ⟨false, rfl⟩ hu1 (V2 3 0 + 1) hS2 ho hd8 hfe
                            rw [← hg_197] at hnw
                            obtain ⟨V5, eV5⟩ : ∃ v, v = rset (rset (rset (rset V2 (200 + ns) (zs6n (nI tn) z dt 0 0 0)) (300 + ns) u1) (400 + ns) u2) 3 (fun _ => V2 3 0 + 1) := ⟨_, rfl⟩
                            rw [← eV5] at hnw
                            obtain ⟨hM5, hF5⟩ := hnw
                            have hbG : (b = B 4 ∧ 0 < ns) ∨ G b = none := hd8.imp_right (fun q => hF2.none_ hM2 q)
                            have hN5 : mNw B (zBi B ns a hs he b) nk ns ne nk (ns + 1) ne G := mNw.i ha0 hhs0 hhe0 hbG hnk hk6
                            have hmo5 := hM5.mo
                            rw [hN5.1] at hmo5
                            have hwr := m_Mo_write hs0 hst hM5 0 (nI ns)
                            rw [hN5.1] at hwr
                            refine z_pop d_Mo_deal_202 rfl ?_
                            refine z_aload_n 3 d_Mo_deal_203 rfl rfl ?_
                            refine z_iconst (v := 0) d_Mo_deal_204 (by decide) ?_
                            refine z_aload_n 3 d_Mo_deal_205 rfl rfl ?_
                            refine z_get zc_Mo 7 (by decide) qF_Mo_20 hmo5 rfl d_Mo_deal_206 ?_
                            refine z_callF0 ((m_AL_size hs0 hst hM5.sl)) ym_AL_size zF_AL_size qM_Mo_94 zc_AL hM5.sl d_Mo_deal_209 rfl (Nat.le_of_ble_eq_true rfl) ⟨by decide, by decide⟩ ⟨Nat.le_of_ble_eq_true rfl, Nat.le_of_ble_eq_true rfl⟩ ?_
                            refine z_iconst (v := (nI 1)) d_Mo_deal_214 (by decide) ?_
                            refine z_isub d_Mo_deal_215 ?_
                            refine z_topv (v := nI ns) (nI_pred ns) ?_
                            refine z_callVp1 (hwr) ym_Mo_write qM_Mo_143 qI_Mo_write qV_Mo_Mo_write zc_Mo hmo5 d_Mo_deal_216 rfl (Nat.le_of_ble_eq_true rfl) ⟨by decide, by decide⟩ ⟨Nat.le_of_ble_eq_true rfl, Nat.le_of_ble_eq_true rfl⟩ (fun r_216 G_216 hp_216 => ?_)
                            obtain ⟨hr_216, B7, V7, ne7, ec7, hM7, hK7, hN7, hF7, hB7⟩ := hp_216
                            obtain rfl : r_216 = none := hr_216
                            have hmo7 := hM7.mo
                            rw [(hB7 0 (by omega) (by omega)).trans hN5.1] at hmo7
                            have hsl7 := hM7.sl
                            refine z_aload_n 3 d_Mo_deal_219 rfl rfl ?_
                            refine z_get zc_Mo 7 (by decide) qF_Mo_20 hmo7 rfl d_Mo_deal_220 ?_
                            refine z_callF0 ((m_AL_size hs0 hst hsl7)) ym_AL_size zF_AL_size qM_Mo_94 zc_AL hsl7 d_Mo_deal_223 rfl (Nat.le_of_ble_eq_true rfl) ⟨by decide, by decide⟩ ⟨Nat.le_of_ble_eq_true rfl, Nat.le_of_ble_eq_true rfl⟩ ?_
                            refine z_iconst (v := (nI 1)) d_Mo_deal_228 (by decide) ?_
                            refine z_isub d_Mo_deal_229 ?_
                            refine z_topv (v := nI ns) (nI_pred ns) ?_
                            exact z_iret rfl (by
                                  have hkk : ∀ r j, zmo_ r j → V7 r j = V5 r j := fun r j hr => hK7 r j hr
                                  have h5 : ∀ q, q ≠ 3 → q ≠ 200 + ns → q ≠ 300 + ns → q ≠ 400 + ns → V5 q = V2 q := fun q q1 q2 q3 q4 => by rw [eV5, rset_n q1, rset_n q4, rset_n q3, rset_n q2]
                                  have hz : ∀ j, j < 3 ∨ j = 4 → V7 (200 + ns) j = zs6n (nI tn) z dt 0 0 0 j := fun j hj => by
                                    rw [hkk (200 + ns) j (by unfold zmo_; omega), eV5, rset_n (by omega), rset_n (by omega), rset_n (by omega), rset_s]
                                  refine Or.inr (Or.inr ⟨hok, hk6, rfl, B7, V7, ne7, ec7, hM7, hN5.tr hN7 (hF2.tr hF5) hM.ne0, ?_, fun r j hr h0 hn => ?_, ⟨hz 0 (by omega), hz 1 (by omega), hz 2 (by omega), hz 4 (by omega)⟩, hN5.fr (hF2.tr hF5) hF7⟩)
                                  · rw [hkk 0 0 (Or.inl ⟨rfl, Or.inl rfl⟩), h5 0 (by decide) (by omega) (by omega) (by omega), hK2.t]; exact hT1
                                  · rw [hkk r j hr, h5 r (by unfold zmo_ at hr; omega) hn (by unfold zmo_ at hr; omega) (by unfold zmo_ at hr; omega), hK2 r j hr]; exact hK1 r j hr h0
                            ) (by first | decide | omega) (by first | decide | omega) d_Mo_deal_230
                          · skip
                            have hi6 : i < 8 := Nat.lt_of_not_le fun q => c_143 (nI_le (a := 8) (b := i) q (by omega))
                            refine z_iload 8 d_Mo_deal_146 rfl ?_
                            refine z_iload 0 d_Mo_deal_148 rfl ?_
                            refine z_callS0 (m_Mo_has hs0 hst (nI g) (nI i)) ym_Mo_has qM_Mo_76 qS_Mo_has d_Mo_deal_150 rfl (Nat.le_of_ble_eq_true rfl) ⟨by decide, by decide⟩ ⟨Nat.le_of_ble_eq_true rfl, Nat.le_of_ble_eq_true rfl⟩ ?_
                            refine z_if_ne 159 d_Mo_deal_153 (by decide) (fun c_153 => ?_) (fun c_153 => ?_)
                            · skip
                              have hk6 : i < nk := zbt_lt hg (by omega) hi6 c_153
                              refine z_aload 2 d_Mo_deal_159 rfl ?_
                              refine z_get zc_MS 6 (by decide) qF_Mo_46 hS2.1 rfl d_Mo_deal_161 ?_
                              refine z_iload 0 d_Mo_deal_164 rfl ?_
                              refine z_aload 1 d_Mo_deal_166 rfl ?_
                              refine z_iload 0 d_Mo_deal_168 rfl ?_
                              refine z_iconst (v := 1) d_Mo_deal_170 (by decide) ?_
                              refine z_iadd d_Mo_deal_171 ?_
                              refine z_callSp1 (m_Mo_at hs0 hst hA2 (by omega) (nI i + 1)) ym_Mo_at qM_Mo_136 qS_Mo_at d_Mo_deal_172 rfl (Nat.le_of_ble_eq_true rfl) ⟨by decide, by decide⟩ ⟨Nat.le_of_ble_eq_true rfl, Nat.le_of_ble_eq_true rfl⟩ (fun r_172 G_172 hp_172 => ?_)
                              obtain ⟨⟨v_172, rfl⟩, rfl⟩ := hp_172
                              refine z_iastN hS2.2.1 (hi6) (by decide) d_Mo_deal_175 ?_
                              have hS5 := hS2.ush (upd u1 i v_172)
                              refine z_aload 2 d_Mo_deal_176 rfl ?_
                              refine z_get zc_MS 7 (by decide) qF_Mo_140 hS5.1 rfl d_Mo_deal_178 ?_
                              refine z_iload 0 d_Mo_deal_181 rfl ?_
                              refine z_iconst (v := 0) d_Mo_deal_183 (by decide) ?_
                              refine z_iastN hS5.2.2.1 (hi6) (by decide) d_Mo_deal_184 ?_
                              have hS6 := hS5.uep (upd u2 i 0)
                              refine z_iinc (v := nI (i + 1)) (L' := [(8, _), (7, _), (6, _), (0, _), (1, _), (2, _), (3, _), (4, _), (5, _)]) 0 d_Mo_deal_185 rfl (nI_1 i) (by decide) rfl ?_
                              refine z_goto 139 d_Mo_deal_188 (by decide) ?_
                              first
                                | exact ih_139 (i + 1) _ _ _ _ (by omega) (by omega) ((hM2.out (fun r hr => (ho r hr).2.1)).out (fun r hr => (ho r hr).2.2)) hK2 ((hF2.nw hhs0).nw hhe0) hS6 ((zu_n hnc.2.2).trans ((zu_n hnc.2.1).trans hA2)) (fun j h1 h2 => (pk_un (by omega)).trans (hu1 j h1 h2))
                                | exact ih_139 (i + 1) _ _ _ _ (by omega) (by omega) hM2 hK2 hF2 hS2 hA2 hu1
                            · skip
                              refine z_goto 185 d_Mo_deal_156 (by decide) ?_
                              refine z_iinc (v := nI (i + 1)) (L' := [(8, _), (7, _), (6, _), (0, _), (1, _), (2, _), (3, _), (4, _), (5, _)]) 0 d_Mo_deal_185 rfl (nI_1 i) (by decide) rfl ?_
                              refine z_goto 139 d_Mo_deal_188 (by decide) ?_
                              first
                                | exact ih_139 (i + 1) _ _ _ _ (by omega) (by omega) ((hM2.out (fun r hr => (ho r hr).2.1)).out (fun r hr => (ho r hr).2.2)) hK2 ((hF2.nw hhs0).nw hhe0) hS6 ((zu_n hnc.2.2).trans ((zu_n hnc.2.1).trans hA2)) (fun j h1 h2 => (pk_un (by omega)).trans (hu1 j h1 h2))
                                | exact ih_139 (i + 1) _ _ _ _ (by omega) (by omega) hM2 hK2 hF2 hS2 hA2 hu1
                      exact key_139 9 0 _ _ _ _ (by omega) (by omega) hM2 hK2 hF2 hS2 hA2 (fun j _ h8 => if_pos h8)
                    · skip
                      have hi6 : i < tn := Nat.lt_of_not_le fun q => c_118 (nI_le q (by omega))
                      refine z_aload 1 d_Mo_deal_121 rfl ?_
                      refine z_iload 0 d_Mo_deal_123 rfl ?_
                      refine z_aload_n 3 d_Mo_deal_125 rfl rfl ?_
                      refine z_callVp1 (m_Mo_draw hs0 hst hM2) ym_Mo_draw qM_Mo_133 qI_Mo_draw qV_Mo_Mo_draw zc_Mo hM2.mo d_Mo_deal_126 rfl (Nat.le_of_ble_eq_true rfl) ⟨by decide, by decide⟩ ⟨Nat.le_of_ble_eq_true rfl, Nat.le_of_ble_eq_true rfl⟩ (fun r_126 G_126 hp_126 => ?_)
                      obtain ⟨⟨v_126, rfl⟩, V3, hM3, hK3, hF3⟩ := hp_126
                      have hA3 := hF3 _ _ hA2 (fun r hr => (hoc r hr).symm)
                      have hS3 := hS2.fr hF3 ho
                      refine z_iastN hA3 (show i < tn by omega) (by omega) d_Mo_deal_129 ?_
                      refine z_iinc (v := nI (i + 1)) (L' := [(8, _), (7, _), (6, _), (0, _), (1, _), (2, _), (3, _), (4, _), (5, _)]) 0 d_Mo_deal_130 rfl (nI_1 i) (by decide) rfl ?_
                      refine z_goto 115 d_Mo_deal_133 (by decide) ?_
                      exact ih_115 (i + 1) _ _ _ (by omega) (by omega) (hM3.out hoc) (hK2.tr hK3) ((hF2.tr hF3).nw hac0) (hS3.ubs hnc) zu_s
                exact key_115 (tn + 1) 1 _ _ _ (by omega) ht1 (hM2.out hoc) hK2 (hF2.nw hac0) (hS2.ubs hnc) zu_s
              · skip
                refine z_aload_n 0 d_Mo_deal_83 rfl rfl ?_
                refine z_iconst (v := 2) d_Mo_deal_84 (by decide) ?_
                refine z_callV0 (m_Mo_no hs0 hst hM1.mo 2) ym_Mo_no qM_Mo_119 qI_Mo_no qV_Mo_Mo_no zc_Mo hM1.mo d_Mo_deal_85 rfl (Nat.le_of_ble_eq_true rfl) ⟨by decide, by decide⟩ ⟨Nat.le_of_ble_eq_true rfl, Nat.le_of_ble_eq_true rfl⟩ ?_
                obtain ⟨V9, hM9, hK9, hF9, hT9⟩ := hM1.putT 2
                exact z_iret rfl (Or.inr (Or.inl ⟨hok, (nI_eq (by omega) (by decide)).mp (by first | exact c_80 | exact Decidable.not_not.mp c_80), rfl, V9, hM9, hT9, hK1.tr hK9, hF1.tr hF9⟩)) (by first | decide | omega) (by first | decide | omega) d_Mo_deal_88
            · skip
              refine z_aload_n 0 d_Mo_deal_63 rfl rfl ?_
              refine z_iconst (v := 1) d_Mo_deal_64 (by decide) ?_
              refine z_callV0 (m_Mo_no hs0 hst hM1.mo 1) ym_Mo_no qM_Mo_119 qI_Mo_no qV_Mo_Mo_no zc_Mo hM1.mo d_Mo_deal_65 rfl (Nat.le_of_ble_eq_true rfl) ⟨by decide, by decide⟩ ⟨Nat.le_of_ble_eq_true rfl, Nat.le_of_ble_eq_true rfl⟩ ?_
              obtain ⟨V9, hM9, hK9, hF9, hT9⟩ := hM1.putT 1
              exact z_iret rfl (Or.inl ⟨by unfold zdok; first | (rw [(zb_0 _).mp c_12]; rfl) | (rw [(zb_0 _).mp c_21, Bool.false_and, Bool.and_false]) | (rw [(zb_0 _).mp c_30, Bool.false_and, Bool.and_false, Bool.and_false]) | (rw [(zb_0 _).mp c_42, Bool.false_and, Bool.and_false, Bool.and_false, Bool.and_false]) | (rw [(zb_0 _).mp c_51, Bool.false_and, Bool.and_false, Bool.and_false, Bool.and_false, Bool.and_false]) | (rw [zbc_512 g (by omega), decide_eq_false c_60, Bool.and_false, Bool.and_false, Bool.and_false, Bool.and_false, Bool.and_false]), rfl, V9, hM9, hT9, hK1.tr hK9, hF1.tr hF9⟩) (by first | decide | omega) (by first | decide | omega) d_Mo_deal_68
