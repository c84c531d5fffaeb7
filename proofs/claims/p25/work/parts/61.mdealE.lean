
theorem zW.grow2 {A A' : Nat → Nat} {live live' : Nat → Prop} {cell cell' : Nat → (Nat → Int32) → va_E} {V V' : Nat → Nat → Int32} {G G1 : zG} (New : Nat → Prop) (h : zW A live cell V G) (hN : ∀ r, live' r → (live r ∧ A' r = A r) ∨ New r) (hF : ∀ r, New r → ∀ q, live q → A q ≠ A' r) (hI : ∀ r q, New r → New q → A' r = A' q → r = q) (hC : ∀ r, live' r → G1 (A' r) = some (cell' r (V' r))) : zW A' live' cell' V' G1 := by
  refine ⟨fun r q hr hq e => ?_, hC⟩
  rcases hN r hr with ⟨l1, e1⟩ | n1 <;> rcases hN q hq with ⟨l2, e2⟩ | n2
  · exact h.1 r q l1 l2 (e1.symm.trans (e.trans e2))
  · exact absurd (e1.symm.trans e) (hF q n2 r l1)
  · exact absurd (e2.symm.trans e.symm) (hF r n1 q l2)
  · exact hI r q n1 n2 e
def zBi (B : Nat → Nat) (ns a hs he b : Nat) : Nat → Nat := fun r => if r = 200 + ns then a else if r = 300 + ns then hs else if r = 400 + ns then he else if r = 4 then b else B r
section ZMS
variable {d : zD} {B : Nat → Nat} {V : Nat → Nat → Int32} {nk ns ne ec : Nat} {G G1 : zG}
theorem zMs.fr {h hs he : Nat} {t z dt epo fr bl : Int32} {sh ep : Nat → Int32} (hS : zMs d h hs he t z dt epo fr bl sh ep G) (hF : mFr B nk ns ne G G1) (ho : ∀ r, mlive nk ns ne r → B r ≠ h ∧ B r ≠ hs ∧ B r ≠ he) : zMs d h hs he t z dt epo fr bl sh ep G1 :=
  ⟨hF _ _ hS.1 (fun r hr => (ho r hr).1.symm), hF _ _ hS.2.1 (fun r hr => (ho r hr).2.1.symm), hF _ _ hS.2.2.1 (fun r hr => (ho r hr).2.2.symm), hS.2.2.2⟩
theorem zMs.ush {h hs he : Nat} {t z dt epo fr bl : Int32} {sh ep : Nat → Int32} (hS : zMs d h hs he t z dt epo fr bl sh ep G) (v : Nat → Int32) : zMs d h hs he t z dt epo fr bl v ep (zu G hs (zI d 8 v)) :=
  ⟨(zu_n (zOI hS.1 hS.2.1)).trans hS.1, zu_s, (zu_n (Ne.symm hS.2.2.2)).trans hS.2.2.1, hS.2.2.2⟩
theorem zMs.uep {h hs he : Nat} {t z dt epo fr bl : Int32} {sh ep : Nat → Int32} (hS : zMs d h hs he t z dt epo fr bl sh ep G) (v : Nat → Int32) : zMs d h hs he t z dt epo fr bl sh v (zu G he (zI d 8 v)) :=
  ⟨(zu_n (zOI hS.1 hS.2.2.1)).trans hS.1, (zu_n hS.2.2.2).trans hS.2.1, zu_s, hS.2.2.2⟩
theorem zMs.ubs {h hs he a : Nat} {t z dt epo fr bl : Int32} {sh ep : Nat → Int32} {w : va_E} (hS : zMs d h hs he t z dt epo fr bl sh ep G) (ha : a ≠ h ∧ a ≠ hs ∧ a ≠ he) : zMs d h hs he t z dt epo fr bl sh ep (zu G a w) :=
  ⟨(zu_n ha.1.symm).trans hS.1, (zu_n ha.2.1.symm).trans hS.2.1, (zu_n ha.2.2.symm).trans hS.2.2.1, hS.2.2.2⟩
def zs6n (a b c e f g : Int32) : Nat → Int32 | 0 => a | 1 => b | 2 => c | 3 => e | 4 => f | _ => g
set_option maxHeartbeats 4000000 in
/-- a secret more -/
theorem zM.newi (h : zM d B V nk ns ne ec G) (hk : ns < 6) {a hs he b : Nat} {w u1 u2 : Nat → Int32} (hw : ∃ t, 1 ≤ t ∧ t ≤ 4 ∧ w 0 = nI t) (hw5 : ∃ b, w 5 = zb b) (hu : ∀ j, nk ≤ j → j < 8 → u1 j = -1) (mc : Int32) (hS : zMs d a hs he (w 0) (w 1) (w 2) (w 3) (w 4) (w 5) u1 u2 G) (ho : ∀ r, mlive nk ns ne r → B r ≠ a ∧ B r ≠ hs ∧ B r ≠ he) (hd : (b = B 4 ∧ 0 < ns) ∨ G b = none) {f' : Nat → Option Nat} (hf : f' = fun j => if j < ns + 1 then some (zBi B ns a hs he b (200 + j)) else none) :
    zM d (zBi B ns a hs he b) (rset (rset (rset (rset V (200 + ns) w) (300 + ns) u1) (400 + ns) u2) 3 (fun _ => mc)) nk (ns + 1) ne ec (zu (zu G b (zO d 10 f')) (B 3) (zob 2 [.int mc, .ref b, .int (nI (ns + 1))])) ∧ mFr B nk ns ne G (zu (zu G b (zO d 10 f')) (B 3) (zob 2 [.int mc, .ref b, .int (nI (ns + 1))])) := by
  have hnk : nk ≤ 8 := h.2.1
  have hne : ne ≤ 64 := h.2.2.2.1
  obtain ⟨s1, s2, s3, s4⟩ := hS
  have a1 : a ≠ hs := zOI s1 s2
  have a2 : a ≠ he := zOI s1 s3
  have e200 : zBi B ns a hs he b (200 + ns) = a := if_pos rfl
  have e300 : zBi B ns a hs he b (300 + ns) = hs := (if_neg (by omega)).trans (if_pos rfl)
  have e400 : zBi B ns a hs he b (400 + ns) = he := (if_neg (by omega)).trans ((if_neg (by omega)).trans (if_pos rfl))
  have e4 : zBi B ns a hs he b 4 = b := (if_neg (by omega)).trans ((if_neg (by omega)).trans ((if_neg (by omega)).trans (if_pos rfl)))
  have eo : ∀ q, q ≠ 4 → q ≠ 200 + ns → q ≠ 300 + ns → q ≠ 400 + ns → zBi B ns a hs he b q = B q := fun q q1 q2 q3 q4 => (if_neg q2).trans ((if_neg q3).trans ((if_neg q4).trans (if_neg q1)))
  have hold : ∀ r, mlive nk (ns + 1) ne r → r ≠ 4 → r ≠ 200 + ns → r ≠ 300 + ns → r ≠ 400 + ns → mlive nk ns ne r := fun r hr h1 h2 h3 h4 => by unfold mlive at *; omega
  have hbx : b ≠ a ∧ b ≠ hs ∧ b ≠ he := by
    rcases hd with ⟨rfl, h0⟩ | hb
    · exact ho 4 (ml_4 h0)
    · refine ⟨fun e => ?_, fun e => ?_, fun e => ?_⟩
      · rw [e, s1] at hb; cases hb
      · rw [e, s2] at hb; cases hb
      · rw [e, s3] at hb; cases hb
  obtain ⟨b1, b2, b3⟩ := hbx
  have hbr : ∀ r, mlive nk ns ne r → r ≠ 4 → B r ≠ b := fun r hr h2 e => by
    rcases hd with ⟨rfl, h0⟩ | hb
    · exact h2 (h.1.1 r 4 hr (ml_4 h0) e)
    · exact h.nn_ hb r hr e
  have h3b : B 3 ≠ b := hbr 3 (ml_s 3) (by decide)
  have h3 := ho 3 (ml_s 3)
  refine ⟨⟨h.1.grow2 (fun r => r = 200 + ns ∨ r = 300 + ns ∨ r = 400 + ns ∨ (r = 4 ∧ ∀ q, mlive nk ns ne q → B q ≠ b)) (fun r hr => ?_) (fun r hr q hq => ?_) (fun r q hr hq e => ?_) (fun r hr => ?_), ?_⟩, ?_⟩
  · by_cases r1 : r = 200 + ns
    · exact Or.inr (Or.inl r1)
    · by_cases r2 : r = 300 + ns
      · exact Or.inr (Or.inr (Or.inl r2))
      · by_cases r3 : r = 400 + ns
        · exact Or.inr (Or.inr (Or.inr (Or.inl r3)))
        · by_cases r4 : r = 4
          · rcases hd with ⟨hb, h0⟩ | hb
            · exact Or.inl (by rw [r4, e4]; exact ⟨ml_4 h0, hb⟩)
            · exact Or.inr (Or.inr (Or.inr (Or.inr ⟨r4, fun q hq => h.nn_ hb q hq⟩)))
          · exact Or.inl ⟨hold r hr r4 r1 r2 r3, eo r r4 r1 r2 r3⟩
  · rcases hr with rfl | rfl | rfl | ⟨rfl, hb⟩
    · rw [e200]; exact (ho q hq).1
    · rw [e300]; exact (ho q hq).2.1
    · rw [e400]; exact (ho q hq).2.2
    · rw [e4]; exact hb q hq
  · rcases hr with rfl | rfl | rfl | ⟨rfl, -⟩ <;> rcases hq with rfl | rfl | rfl | ⟨rfl, -⟩ <;> first | rfl | (simp only [e200, e300, e400, e4] at e)
    · exact absurd e a1
    · exact absurd e a2
    · exact absurd e.symm b1
    · exact absurd e.symm a1
    · exact absurd e s4
    · exact absurd e.symm b2
    · exact absurd e.symm a2
    · exact absurd e.symm s4
    · exact absurd e.symm b3
    · exact absurd e b1
    · exact absurd e b2
    · exact absurd e b3
  · by_cases r1 : r = 200 + ns
    · subst r1
      rw [e200, zu_n h3.1.symm, zu_n b1.symm, rset_n (by omega), rset_n (by omega), rset_n (by omega), rset_s, mcell_i hk, e300, e400]
      exact s1
    · by_cases r2 : r = 300 + ns
      · subst r2
        rw [e300, zu_n h3.2.1.symm, zu_n b2.symm, rset_n (by omega), rset_n (by omega), rset_s, mcell_a (by omega) (by omega)]
        exact s2
      · by_cases r3 : r = 400 + ns
        · subst r3
          rw [e400, zu_n h3.2.2.symm, zu_n b3.symm, rset_n (by omega), rset_s, mcell_a (by omega) (by omega)]
          exact s3
        · by_cases r4 : r = 4
          · subst r4
            rw [e4, zu_n h3b.symm, zu_s, hf]
            rfl
          · have l1 := hold r hr r4 r1 r2 r3
            rw [eo r r4 r1 r2 r3]
            by_cases r5 : r = 3
            · subst r5
              rw [zu_s, rset_s]
              show _ = some (zob 2 [.int mc, .ref (if ns + 1 = 0 then d.2.2 else zBi B ns a hs he b 4), .int (nI (ns + 1))])
              rw [if_neg (by omega), e4]
            · rw [zu_n (fun e => r5 (h.1.1 r 3 l1 (ml_s 3) e)), zu_n (hbr r l1 r4), rset_n r5, rset_n r3, rset_n r2, rset_n r1]
              refine (h.1.2 r l1).trans (congrArg some ?_)
              by_cases r6 : r = 1
              · subst r6
                show zob 2 [_, .ref (if nk = 0 then d.2.2 else B 2), _] = zob 2 [_, .ref (if nk = 0 then d.2.2 else zBi B ns a hs he b 2), _]
                rw [eo 2 (by decide) (by omega) (by omega) (by omega)]
              · by_cases r7 : r = 2
                · subst r7
                  show zO d 10 _ = zO d 10 (fun j => if j < nk then some (zBi B ns a hs he b (100 + j)) else Option.none)
                  have : (fun j => if j < nk then some (zBi B ns a hs he b (100 + j)) else Option.none) = (fun j => if j < nk then some (B (100 + j)) else Option.none) := funext fun j => by
                    by_cases hj : j < nk
                    · rw [if_pos hj, if_pos hj, eo (100 + j) (by omega) (by omega) (by omega) (by omega)]
                    · rw [if_neg hj, if_neg hj]
                  rw [this]
                · by_cases r8 : r = 5
                  · subst r8
                    show zob 2 [_, .ref (if ne = 0 then d.2.2 else B 6), _] = zob 2 [_, .ref (if ne = 0 then d.2.2 else zBi B ns a hs he b 6), _]
                    rw [eo 6 (by decide) (by omega) (by omega) (by omega)]
                  · by_cases r9 : r = 6
                    · subst r9
                      show zO d ec _ = zO d ec (fun j => if j < ne then some (zBi B ns a hs he b (500 + j)) else Option.none)
                      have : (fun j => if j < ne then some (zBi B ns a hs he b (500 + j)) else Option.none) = (fun j => if j < ne then some (B (500 + j)) else Option.none) := funext fun j => by rw [eo (500 + j) (by omega) (by omega) (by omega) (by omega)]
                      rw [this]
                    · exact (mcell_B r6 r7 r5 r4 r8 r9 (fun q q1 q2 q3 q4 q5 => eo q q4 (by omega) (by omega) (by omega)) (fun g1 g2 => by unfold mlive at l1; exact ⟨eo _ (by omega) (by omega) (by omega) (by omega), eo _ (by omega) (by omega) (by omega) (by omega)⟩)).symm
  · obtain ⟨i1, i2, i3, i4, i5, i6, i7, i8, i9⟩ := h.2
    have hn : ∀ q, q ≠ 3 → q ≠ 200 + ns → q ≠ 300 + ns → q ≠ 400 + ns → (rset (rset (rset (rset V (200 + ns) w) (300 + ns) u1) (400 + ns) u2) 3 (fun _ => mc)) q = V q := fun q q1 q2 q3 q4 => by rw [rset_n q1, rset_n q4, rset_n q3, rset_n q2]
    refine ⟨i1, by omega, i3, i4, i5, fun q hq => ?_, fun q hq j h1 h2 => ?_, fun q hq => ?_, fun q hq => by rw [hn _ (by omega) (by omega) (by omega) (by omega)]; exact i9 q hq⟩
    · by_cases ek : q = ns
      · subst ek; rw [rset_n (by omega), rset_n (by omega), rset_n (by omega), rset_s]; exact hw
      · rw [hn _ (by omega) (by omega) (by omega) (by omega)]; exact i6 q (by omega)
    · by_cases ek : q = ns
      · subst ek; rw [rset_n (by omega), rset_n (by omega), rset_s]; exact hu j h1 h2
      · rw [hn _ (by omega) (by omega) (by omega) (by omega)]; exact i7 q (by omega) j h1 h2
    · by_cases ek : q = ns
      · subst ek; rw [rset_n (by omega), rset_n (by omega), rset_n (by omega), rset_s]; exact hw5
      · rw [hn _ (by omega) (by omega) (by omega) (by omega)]; exact i8 q (by omega)
  · have f2 : mFr B nk ns ne G (zu G b (zO d 10 f')) := by
      rcases hd with ⟨rfl, h0⟩ | hb
      · exact zM.frput (ml_4 h0) rfl
      · exact mFr.nw zFr.rf hb
    exact f2.tr (zM.frput (ml_s 3) rfl)
theorem mNw.i {a hs he b : Nat} (ha : G a = none) (h1 : G hs = none) (h2 : G he = none) (hb : (b = B 4 ∧ 0 < ns) ∨ G b = none) (hnk : nk ≤ 8) (hns : ns < 6) : mNw B (zBi B ns a hs he b) nk ns ne nk (ns + 1) ne G := by
  have e200 : zBi B ns a hs he b (200 + ns) = a := if_pos rfl
  have e300 : zBi B ns a hs he b (300 + ns) = hs := (if_neg (by omega)).trans (if_pos rfl)
  have e400 : zBi B ns a hs he b (400 + ns) = he := (if_neg (by omega)).trans ((if_neg (by omega)).trans (if_pos rfl))
  have e4 : zBi B ns a hs he b 4 = b := (if_neg (by omega)).trans ((if_neg (by omega)).trans ((if_neg (by omega)).trans (if_pos rfl)))
  have eo : ∀ q, q ≠ 4 → q ≠ 200 + ns → q ≠ 300 + ns → q ≠ 400 + ns → zBi B ns a hs he b q = B q := fun q q1 q2 q3 q4 => (if_neg q2).trans ((if_neg q3).trans ((if_neg q4).trans (if_neg q1)))
  refine ⟨eo 0 (by decide) (by omega) (by omega) (by omega), fun r hr => ?_⟩
  by_cases r1 : r = 200 + ns
  · exact Or.inr (by rw [r1, e200]; exact ha)
  · by_cases r2 : r = 300 + ns
    · exact Or.inr (by rw [r2, e300]; exact h1)
    · by_cases r3 : r = 400 + ns
      · exact Or.inr (by rw [r3, e400]; exact h2)
      · by_cases r4 : r = 4
        · rcases hb with ⟨hb, h0⟩ | hb
          · exact Or.inl ⟨4, ml_4 h0, by rw [r4, e4]; exact hb⟩
          · exact Or.inr (by rw [r4, e4]; exact hb)
        · exact Or.inl ⟨r, by unfold mlive at *; omega, eo r r4 r1 r2 r3⟩
end ZMS


def mDl (V1 V' : Nat → Nat → Int32) (ns ne ne' tn : Nat) (x z dt set : Int32) : Prop := ∃ V2 fc u1 u2 mc, mLk V1 V2 (zlkn (nI tn) (V1 0 1) tn) ∧ (∀ j, j < tn → fc j = zcvn x (nI tn) (V1 0 1) j) ∧ zSh set (fun j => zcN fc (nI j + 1) tn tn) u1 u2 8 ∧ mEn (rset (rset (rset (rset V2 (200 + ns) (zs6n (nI tn) z dt 0 0 0)) (300 + ns) u1) (400 + ns) u2) 3 (fun _ => mc)) V' ne ne' 0 (nI ns)

theorem d_Mo_deal_0 : decode c_Mo_deal 0 = .ok (.aload_n 0, 1) := by decide +kernel
theorem d_Mo_deal_1 : decode c_Mo_deal 1 = .ok (.iconst 0, 1) := by decide +kernel
theorem d_Mo_deal_2 : decode c_Mo_deal 2 = .ok (.putfield 36, 3) := by decide +kernel
theorem d_Mo_deal_5 : decode c_Mo_deal 5 = .ok (.iload_n 1, 1) := by decide +kernel
theorem d_Mo_deal_6 : decode c_Mo_deal 6 = .ok (.iconst 0, 1) := by decide +kernel
theorem d_Mo_deal_7 : decode c_Mo_deal 7 = .ok (.bipush 96, 2) := by decide +kernel
theorem d_Mo_deal_9 : decode c_Mo_deal 9 = .ok (.invokestatic 115, 3) := by decide +kernel
theorem d_Mo_deal_12 : decode c_Mo_deal 12 = .ok (.ifCond .eq 51, 3) := by decide +kernel
theorem d_Mo_deal_15 : decode c_Mo_deal 15 = .ok (.iload_n 2, 1) := by decide +kernel
theorem d_Mo_deal_16 : decode c_Mo_deal 16 = .ok (.iconst 1, 1) := by decide +kernel
theorem d_Mo_deal_17 : decode c_Mo_deal 17 = .ok (.iconst 4, 1) := by decide +kernel
theorem d_Mo_deal_18 : decode c_Mo_deal 18 = .ok (.invokestatic 115, 3) := by decide +kernel
theorem d_Mo_deal_21 : decode c_Mo_deal 21 = .ok (.ifCond .eq 42, 3) := by decide +kernel
theorem d_Mo_deal_24 : decode c_Mo_deal 24 = .ok (.iload_n 3, 1) := by decide +kernel
theorem d_Mo_deal_25 : decode c_Mo_deal 25 = .ok (.iconst 1, 1) := by decide +kernel
theorem d_Mo_deal_26 : decode c_Mo_deal 26 = .ok (.iconst 4, 1) := by decide +kernel
theorem d_Mo_deal_27 : decode c_Mo_deal 27 = .ok (.invokestatic 115, 3) := by decide +kernel
theorem d_Mo_deal_30 : decode c_Mo_deal 30 = .ok (.ifCond .eq 33, 3) := by decide +kernel
theorem d_Mo_deal_33 : decode c_Mo_deal 33 = .ok (.iload 4, 2) := by decide +kernel
theorem d_Mo_deal_35 : decode c_Mo_deal 35 = .ok (.iconst 0, 1) := by decide +kernel
theorem d_Mo_deal_36 : decode c_Mo_deal 36 = .ok (.sipush 999, 3) := by decide +kernel
theorem d_Mo_deal_39 : decode c_Mo_deal 39 = .ok (.invokestatic 115, 3) := by decide +kernel
theorem d_Mo_deal_42 : decode c_Mo_deal 42 = .ok (.ifCond .eq 21, 3) := by decide +kernel
theorem d_Mo_deal_45 : decode c_Mo_deal 45 = .ok (.aload_n 0, 1) := by decide +kernel
theorem d_Mo_deal_46 : decode c_Mo_deal 46 = .ok (.iload 5, 2) := by decide +kernel
theorem d_Mo_deal_48 : decode c_Mo_deal 48 = .ok (.invokevirtual 129, 3) := by decide +kernel
theorem d_Mo_deal_51 : decode c_Mo_deal 51 = .ok (.ifCond .eq 12, 3) := by decide +kernel
theorem d_Mo_deal_54 : decode c_Mo_deal 54 = .ok (.iload 5, 2) := by decide +kernel
theorem d_Mo_deal_56 : decode c_Mo_deal 56 = .ok (.invokestatic 66, 3) := by decide +kernel
theorem d_Mo_deal_59 : decode c_Mo_deal 59 = .ok (.iload_n 2, 1) := by decide +kernel
theorem d_Mo_deal_60 : decode c_Mo_deal 60 = .ok (.if_icmp .ge 9, 3) := by decide +kernel
theorem d_Mo_deal_63 : decode c_Mo_deal 63 = .ok (.aload_n 0, 1) := by decide +kernel
theorem d_Mo_deal_64 : decode c_Mo_deal 64 = .ok (.iconst 1, 1) := by decide +kernel
theorem d_Mo_deal_65 : decode c_Mo_deal 65 = .ok (.invokevirtual 119, 3) := by decide +kernel
theorem d_Mo_deal_68 : decode c_Mo_deal 68 = .ok (.ireturn, 1) := by decide +kernel
theorem d_Mo_deal_69 : decode c_Mo_deal 69 = .ok (.aload_n 0, 1) := by decide +kernel
theorem d_Mo_deal_70 : decode c_Mo_deal 70 = .ok (.getfield 20, 3) := by decide +kernel
theorem d_Mo_deal_73 : decode c_Mo_deal 73 = .ok (.invokeinterface 94 1, 5) := by decide +kernel
theorem d_Mo_deal_78 : decode c_Mo_deal 78 = .ok (.bipush 6, 2) := by decide +kernel
theorem d_Mo_deal_80 : decode c_Mo_deal 80 = .ok (.if_icmp .ne 9, 3) := by decide +kernel
theorem d_Mo_deal_83 : decode c_Mo_deal 83 = .ok (.aload_n 0, 1) := by decide +kernel
theorem d_Mo_deal_84 : decode c_Mo_deal 84 = .ok (.iconst 2, 1) := by decide +kernel
theorem d_Mo_deal_85 : decode c_Mo_deal 85 = .ok (.invokevirtual 119, 3) := by decide +kernel
theorem d_Mo_deal_88 : decode c_Mo_deal 88 = .ok (.ireturn, 1) := by decide +kernel
theorem d_Mo_deal_89 : decode c_Mo_deal 89 = .ok (.new 47, 3) := by decide +kernel
theorem d_Mo_deal_92 : decode c_Mo_deal 92 = .ok (.dup, 1) := by decide +kernel
theorem d_Mo_deal_93 : decode c_Mo_deal 93 = .ok (.iload_n 2, 1) := by decide +kernel
theorem d_Mo_deal_94 : decode c_Mo_deal 94 = .ok (.iload_n 3, 1) := by decide +kernel
theorem d_Mo_deal_95 : decode c_Mo_deal 95 = .ok (.iload 4, 2) := by decide +kernel
theorem d_Mo_deal_97 : decode c_Mo_deal 97 = .ok (.invokespecial 132, 3) := by decide +kernel
theorem d_Mo_deal_100 : decode c_Mo_deal 100 = .ok (.astore 6, 2) := by decide +kernel
theorem d_Mo_deal_102 : decode c_Mo_deal 102 = .ok (.iload_n 2, 1) := by decide +kernel
theorem d_Mo_deal_103 : decode c_Mo_deal 103 = .ok (.newarray .int, 2) := by decide +kernel
theorem d_Mo_deal_105 : decode c_Mo_deal 105 = .ok (.astore 7, 2) := by decide +kernel
theorem d_Mo_deal_107 : decode c_Mo_deal 107 = .ok (.aload 7, 2) := by decide +kernel
theorem d_Mo_deal_109 : decode c_Mo_deal 109 = .ok (.iconst 0, 1) := by decide +kernel
theorem d_Mo_deal_110 : decode c_Mo_deal 110 = .ok (.iload_n 1, 1) := by decide +kernel
theorem d_Mo_deal_111 : decode c_Mo_deal 111 = .ok (.iastore, 1) := by decide +kernel
theorem d_Mo_deal_112 : decode c_Mo_deal 112 = .ok (.iconst 1, 1) := by decide +kernel
theorem d_Mo_deal_113 : decode c_Mo_deal 113 = .ok (.istore 8, 2) := by decide +kernel
theorem d_Mo_deal_115 : decode c_Mo_deal 115 = .ok (.iload 8, 2) := by decide +kernel
theorem d_Mo_deal_117 : decode c_Mo_deal 117 = .ok (.iload_n 2, 1) := by decide +kernel
theorem d_Mo_deal_118 : decode c_Mo_deal 118 = .ok (.if_icmp .ge 18, 3) := by decide +kernel
theorem d_Mo_deal_121 : decode c_Mo_deal 121 = .ok (.aload 7, 2) := by decide +kernel
theorem d_Mo_deal_123 : decode c_Mo_deal 123 = .ok (.iload 8, 2) := by decide +kernel
theorem d_Mo_deal_125 : decode c_Mo_deal 125 = .ok (.aload_n 0, 1) := by decide +kernel
theorem d_Mo_deal_126 : decode c_Mo_deal 126 = .ok (.invokevirtual 133, 3) := by decide +kernel
theorem d_Mo_deal_129 : decode c_Mo_deal 129 = .ok (.iastore, 1) := by decide +kernel
theorem d_Mo_deal_130 : decode c_Mo_deal 130 = .ok (.iinc 8 1, 3) := by decide +kernel
theorem d_Mo_deal_133 : decode c_Mo_deal 133 = .ok (.goto (-18), 3) := by decide +kernel
theorem d_Mo_deal_136 : decode c_Mo_deal 136 = .ok (.iconst 0, 1) := by decide +kernel
theorem d_Mo_deal_137 : decode c_Mo_deal 137 = .ok (.istore 8, 2) := by decide +kernel
theorem d_Mo_deal_139 : decode c_Mo_deal 139 = .ok (.iload 8, 2) := by decide +kernel
theorem d_Mo_deal_141 : decode c_Mo_deal 141 = .ok (.bipush 8, 2) := by decide +kernel
theorem d_Mo_deal_143 : decode c_Mo_deal 143 = .ok (.if_icmp .ge 48, 3) := by decide +kernel
theorem d_Mo_deal_146 : decode c_Mo_deal 146 = .ok (.iload 5, 2) := by decide +kernel
theorem d_Mo_deal_148 : decode c_Mo_deal 148 = .ok (.iload 8, 2) := by decide +kernel
theorem d_Mo_deal_150 : decode c_Mo_deal 150 = .ok (.invokestatic 76, 3) := by decide +kernel
theorem d_Mo_deal_153 : decode c_Mo_deal 153 = .ok (.ifCond .ne 6, 3) := by decide +kernel
theorem d_Mo_deal_156 : decode c_Mo_deal 156 = .ok (.goto 29, 3) := by decide +kernel
theorem d_Mo_deal_159 : decode c_Mo_deal 159 = .ok (.aload 6, 2) := by decide +kernel
theorem d_Mo_deal_161 : decode c_Mo_deal 161 = .ok (.getfield 46, 3) := by decide +kernel
theorem d_Mo_deal_164 : decode c_Mo_deal 164 = .ok (.iload 8, 2) := by decide +kernel
theorem d_Mo_deal_166 : decode c_Mo_deal 166 = .ok (.aload 7, 2) := by decide +kernel
theorem d_Mo_deal_168 : decode c_Mo_deal 168 = .ok (.iload 8, 2) := by decide +kernel
theorem d_Mo_deal_170 : decode c_Mo_deal 170 = .ok (.iconst 1, 1) := by decide +kernel
theorem d_Mo_deal_171 : decode c_Mo_deal 171 = .ok (.iadd, 1) := by decide +kernel
theorem d_Mo_deal_172 : decode c_Mo_deal 172 = .ok (.invokestatic 136, 3) := by decide +kernel
theorem d_Mo_deal_175 : decode c_Mo_deal 175 = .ok (.iastore, 1) := by decide +kernel
theorem d_Mo_deal_176 : decode c_Mo_deal 176 = .ok (.aload 6, 2) := by decide +kernel
theorem d_Mo_deal_178 : decode c_Mo_deal 178 = .ok (.getfield 140, 3) := by decide +kernel
theorem d_Mo_deal_181 : decode c_Mo_deal 181 = .ok (.iload 8, 2) := by decide +kernel
theorem d_Mo_deal_183 : decode c_Mo_deal 183 = .ok (.iconst 0, 1) := by decide +kernel
theorem d_Mo_deal_184 : decode c_Mo_deal 184 = .ok (.iastore, 1) := by decide +kernel
theorem d_Mo_deal_185 : decode c_Mo_deal 185 = .ok (.iinc 8 1, 3) := by decide +kernel
theorem d_Mo_deal_188 : decode c_Mo_deal 188 = .ok (.goto (-49), 3) := by decide +kernel
theorem d_Mo_deal_191 : decode c_Mo_deal 191 = .ok (.aload_n 0, 1) := by decide +kernel
theorem d_Mo_deal_192 : decode c_Mo_deal 192 = .ok (.getfield 20, 3) := by decide +kernel
theorem d_Mo_deal_195 : decode c_Mo_deal 195 = .ok (.aload 6, 2) := by decide +kernel
theorem d_Mo_deal_197 : decode c_Mo_deal 197 = .ok (.invokeinterface 111 2, 5) := by decide +kernel
theorem d_Mo_deal_202 : decode c_Mo_deal 202 = .ok (.pop, 1) := by decide +kernel
theorem d_Mo_deal_203 : decode c_Mo_deal 203 = .ok (.aload_n 0, 1) := by decide +kernel
theorem d_Mo_deal_204 : decode c_Mo_deal 204 = .ok (.iconst 0, 1) := by decide +kernel
theorem d_Mo_deal_205 : decode c_Mo_deal 205 = .ok (.aload_n 0, 1) := by decide +kernel
theorem d_Mo_deal_206 : decode c_Mo_deal 206 = .ok (.getfield 20, 3) := by decide +kernel
theorem d_Mo_deal_209 : decode c_Mo_deal 209 = .ok (.invokeinterface 94 1, 5) := by decide +kernel
theorem d_Mo_deal_214 : decode c_Mo_deal 214 = .ok (.iconst 1, 1) := by decide +kernel
theorem d_Mo_deal_215 : decode c_Mo_deal 215 = .ok (.isub, 1) := by decide +kernel
theorem d_Mo_deal_216 : decode c_Mo_deal 216 = .ok (.invokevirtual 143, 3) := by decide +kernel
theorem d_Mo_deal_219 : decode c_Mo_deal 219 = .ok (.aload_n 0, 1) := by decide +kernel
theorem d_Mo_deal_220 : decode c_Mo_deal 220 = .ok (.getfield 20, 3) := by decide +kernel
theorem d_Mo_deal_223 : decode c_Mo_deal 223 = .ok (.invokeinterface 94 1, 5) := by decide +kernel
theorem d_Mo_deal_228 : decode c_Mo_deal 228 = .ok (.iconst 1, 1) := by decide +kernel
theorem d_Mo_deal_229 : decode c_Mo_deal 229 = .ok (.isub, 1) := by decide +kernel
theorem d_Mo_deal_230 : decode c_Mo_deal 230 = .ok (.ireturn, 1) := by decide +kernel
set_option maxHeartbeats 4000000 in
set_option maxRecDepth 100000 in
theorem m_Mo_dealE {g0 : State} {d : zD} {l : Launch} {a0 : Array Value} (hs0 : zS0 d a0 g0) (hst : l.stackTraces = false) {G : zG} {B : Nat → Nat} {V : Nat → Nat → Int32} {nk ns ne ec : Nat} (hM : zM d B V nk ns ne ec G) (x t z dt set : Int32) : zMet g0 d l y_Mo_deal c_Mo_deal 9 ((Option.some Jvm.ClassFile.FieldType.int)) 10 8 300 [.ref (B 0), .int x, .int t, .int z, .int dt, .int set] (G) (fun r G1 => (zdok nk x t z dt set = false ∧ mThr d B nk ns ne ec V G 1 r G1) ∨ (zdok nk x t z dt set = true ∧ ns = 6 ∧ mThr d B nk ns ne ec V G 2 r G1) ∨ (zdok nk x t z dt set = true ∧ ns < 6 ∧ r = some (.int (nI ns)) ∧ ∃ t9, 1 ≤ t9 ∧ t9 ≤ 4 ∧ t = nI t9 ∧ ∃ V1 B' V' ne' ec', zKn V V1 ∧ V1 0 0 = 0 ∧ mDl V1 V' ns ne ne' t9 x z dt set ∧ zM d B' V' nk (ns + 1) ne' ec' G1 ∧ mNw B B' nk ns ne nk (ns + 1) ne' G ∧ mFr B nk ns ne G G1)) (zNo) := by
  have hnk : nk ≤ 8 := hM.2.1
  have hns : ns ≤ 6 := hM.2.2.1
  have hne : ne ≤ 64 := hM.2.2.2.1
  have hp2 : 2 ^ nk ≤ 256 := Nat.pow_le_pow_right (n := 2) (by decide) hnk
  refine z_entry hs0 hst (by decide) (Nat.le_of_ble_eq_true rfl) (fun p e s m args below meth c => ?_)
  refine z_aload_n 0 d_Mo_deal_0 rfl rfl ?_
  refine z_iconst (v := 0) d_Mo_deal_1 (by decide) ?_
  refine z_put zc_Mo 0 (by decide) qF_Mo_36 hM.mo rfl rfl rfl (Nat.le_of_ble_eq_true rfl) d_Mo_deal_2 ?_
  obtain ⟨V1, hM1, hK1, hF1, hT1⟩ := hM.putT 0
  refine z_iload_n 1 d_Mo_deal_5 rfl rfl ?_
  refine z_iconst (v := 0) d_Mo_deal_6 (by decide) ?_
  refine z_bipush (v := 96) d_Mo_deal_7 (by decide) ?_
  refine z_callS0 (m_Mo_in hs0 hst x 0 _) ym_Mo_in qM_Mo_115 qS_Mo_in d_Mo_deal_9 rfl (Nat.le_of_ble_eq_true rfl) ⟨by decide, by decide⟩ ⟨Nat.le_of_ble_eq_true rfl, Nat.le_of_ble_eq_true rfl⟩ ?_
  refine z_if_eq 63 d_Mo_deal_12 (by decide) (fun c_12 => ?_) (fun c_12 => ?_)
  · skip
    refine z_aload_n 0 d_Mo_deal_63 rfl rfl ?_
    refine z_iconst (v := 1) d_Mo_deal_64 (by decide) ?_
    refine z_callV0 (m_Mo_no hs0 hst hM1.mo 1) ym_Mo_no qM_Mo_119 qI_Mo_no qV_Mo_Mo_no zc_Mo hM1.mo d_Mo_deal_65 rfl (Nat.le_of_ble_eq_true rfl) ⟨by decide, by decide⟩ ⟨Nat.le_of_ble_eq_true rfl, Nat.le_of_ble_eq_true rfl⟩ ?_
    obtain ⟨V9, hM9, hK9, hF9, hT9⟩ := hM1.putT 1
    exact z_iret rfl (Or.inl ⟨by unfold zdok; first | (rw [(zb_0 _).mp c_12]; rfl) | (rw [(zb_0 _).mp c_21, Bool.false_and, Bool.and_false]) | (rw [(zb_0 _).mp c_30, Bool.false_and, Bool.and_false, Bool.and_false]) | (rw [(zb_0 _).mp c_42, Bool.false_and, Bool.and_false, Bool.and_false, Bool.and_false]) | (rw [(zb_0 _).mp c_51, Bool.false_and, Bool.and_false, Bool.and_false, Bool.and_false, Bool.and_false]) | (rw [zbc_512 g (by omega), decide_eq_false c_60, Bool.and_false, Bool.and_false, Bool.and_false, Bool.and_false, Bool.and_false]), ⟨rfl, V9, hM9, hT9, hK1.tr hK9, hF1.tr hF9⟩⟩) (by first | decide | omega) (by first | decide | omega) d_Mo_deal_68
  · skip
    refine z_iload_n 2 d_Mo_deal_15 rfl rfl ?_
    refine z_iconst (v := 1) d_Mo_deal_16 (by decide) ?_
    refine z_iconst (v := 4) d_Mo_deal_17 (by decide) ?_
    refine z_callS0 (m_Mo_in hs0 hst t 1 _) ym_Mo_in qM_Mo_115 qS_Mo_in d_Mo_deal_18 rfl (Nat.le_of_ble_eq_true rfl) ⟨by decide, by decide⟩ ⟨Nat.le_of_ble_eq_true rfl, Nat.le_of_ble_eq_true rfl⟩ ?_
    refine z_if_eq 63 d_Mo_deal_21 (by decide) (fun c_21 => ?_) (fun c_21 => ?_)
    · skip
      refine z_aload_n 0 d_Mo_deal_63 rfl rfl ?_
      refine z_iconst (v := 1) d_Mo_deal_64 (by decide) ?_
      refine z_callV0 (m_Mo_no hs0 hst hM1.mo 1) ym_Mo_no qM_Mo_119 qI_Mo_no qV_Mo_Mo_no zc_Mo hM1.mo d_Mo_deal_65 rfl (Nat.le_of_ble_eq_true rfl) ⟨by decide, by decide⟩ ⟨Nat.le_of_ble_eq_true rfl, Nat.le_of_ble_eq_true rfl⟩ ?_
      obtain ⟨V9, hM9, hK9, hF9, hT9⟩ := hM1.putT 1
      exact z_iret rfl (Or.inl ⟨by unfold zdok; first | (rw [(zb_0 _).mp c_12]; rfl) | (rw [(zb_0 _).mp c_21, Bool.false_and, Bool.and_false]) | (rw [(zb_0 _).mp c_30, Bool.false_and, Bool.and_false, Bool.and_false]) | (rw [(zb_0 _).mp c_42, Bool.false_and, Bool.and_false, Bool.and_false, Bool.and_false]) | (rw [(zb_0 _).mp c_51, Bool.false_and, Bool.and_false, Bool.and_false, Bool.and_false, Bool.and_false]) | (rw [zbc_512 g (by omega), decide_eq_false c_60, Bool.and_false, Bool.and_false, Bool.and_false, Bool.and_false, Bool.and_false]), ⟨rfl, V9, hM9, hT9, hK1.tr hK9, hF1.tr hF9⟩⟩) (by first | decide | omega) (by first | decide | omega) d_Mo_deal_68
    · skip
      refine z_iload_n 3 d_Mo_deal_24 rfl rfl ?_
      refine z_iconst (v := 1) d_Mo_deal_25 (by decide) ?_
      refine z_iconst (v := 4) d_Mo_deal_26 (by decide) ?_
      refine z_callS0 (m_Mo_in hs0 hst z 1 _) ym_Mo_in qM_Mo_115 qS_Mo_in d_Mo_deal_27 rfl (Nat.le_of_ble_eq_true rfl) ⟨by decide, by decide⟩ ⟨Nat.le_of_ble_eq_true rfl, Nat.le_of_ble_eq_true rfl⟩ ?_
      refine z_if_eq 63 d_Mo_deal_30 (by decide) (fun c_30 => ?_) (fun c_30 => ?_)
      · skip
        refine z_aload_n 0 d_Mo_deal_63 rfl rfl ?_
        refine z_iconst (v := 1) d_Mo_deal_64 (by decide) ?_
        refine z_callV0 (m_Mo_no hs0 hst hM1.mo 1) ym_Mo_no qM_Mo_119 qI_Mo_no qV_Mo_Mo_no zc_Mo hM1.mo d_Mo_deal_65 rfl (Nat.le_of_ble_eq_true rfl) ⟨by decide, by decide⟩ ⟨Nat.le_of_ble_eq_true rfl, Nat.le_of_ble_eq_true rfl⟩ ?_
        obtain ⟨V9, hM9, hK9, hF9, hT9⟩ := hM1.putT 1
        exact z_iret rfl (Or.inl ⟨by unfold zdok; first | (rw [(zb_0 _).mp c_12]; rfl) | (rw [(zb_0 _).mp c_21, Bool.false_and, Bool.and_false]) | (rw [(zb_0 _).mp c_30, Bool.false_and, Bool.and_false, Bool.and_false]) | (rw [(zb_0 _).mp c_42, Bool.false_and, Bool.and_false, Bool.and_false, Bool.and_false]) | (rw [(zb_0 _).mp c_51, Bool.false_and, Bool.and_false, Bool.and_false, Bool.and_false, Bool.and_false]) | (rw [zbc_512 g (by omega), decide_eq_false c_60, Bool.and_false, Bool.and_false, Bool.and_false, Bool.and_false, Bool.and_false]), ⟨rfl, V9, hM9, hT9, hK1.tr hK9, hF1.tr hF9⟩⟩) (by first | decide | omega) (by first | decide | omega) d_Mo_deal_68
      · skip
        refine z_iload 4 d_Mo_deal_33 rfl ?_
        refine z_iconst (v := 0) d_Mo_deal_35 (by decide) ?_
        refine z_sipush (v := 999) d_Mo_deal_36 (by decide) ?_
        refine z_callS0 (m_Mo_in hs0 hst dt 0 _) ym_Mo_in qM_Mo_115 qS_Mo_in d_Mo_deal_39 rfl (Nat.le_of_ble_eq_true rfl) ⟨by decide, by decide⟩ ⟨Nat.le_of_ble_eq_true rfl, Nat.le_of_ble_eq_true rfl⟩ ?_
        refine z_if_eq 63 d_Mo_deal_42 (by decide) (fun c_42 => ?_) (fun c_42 => ?_)
        · skip
          refine z_aload_n 0 d_Mo_deal_63 rfl rfl ?_
          refine z_iconst (v := 1) d_Mo_deal_64 (by decide) ?_
          refine z_callV0 (m_Mo_no hs0 hst hM1.mo 1) ym_Mo_no qM_Mo_119 qI_Mo_no qV_Mo_Mo_no zc_Mo hM1.mo d_Mo_deal_65 rfl (Nat.le_of_ble_eq_true rfl) ⟨by decide, by decide⟩ ⟨Nat.le_of_ble_eq_true rfl, Nat.le_of_ble_eq_true rfl⟩ ?_
          obtain ⟨V9, hM9, hK9, hF9, hT9⟩ := hM1.putT 1
          exact z_iret rfl (Or.inl ⟨by unfold zdok; first | (rw [(zb_0 _).mp c_12]; rfl) | (rw [(zb_0 _).mp c_21, Bool.false_and, Bool.and_false]) | (rw [(zb_0 _).mp c_30, Bool.false_and, Bool.and_false, Bool.and_false]) | (rw [(zb_0 _).mp c_42, Bool.false_and, Bool.and_false, Bool.and_false, Bool.and_false]) | (rw [(zb_0 _).mp c_51, Bool.false_and, Bool.and_false, Bool.and_false, Bool.and_false, Bool.and_false]) | (rw [zbc_512 g (by omega), decide_eq_false c_60, Bool.and_false, Bool.and_false, Bool.and_false, Bool.and_false, Bool.and_false]), ⟨rfl, V9, hM9, hT9, hK1.tr hK9, hF1.tr hF9⟩⟩) (by first | decide | omega) (by first | decide | omega) d_Mo_deal_68
        · skip
          refine z_aload_n 0 d_Mo_deal_45 rfl rfl ?_
          refine z_iload 5 d_Mo_deal_46 rfl ?_
          refine z_callV0 (m_Mo_isSet hs0 hst hM1 set) ym_Mo_isSet qM_Mo_129 qI_Mo_isSet qV_Mo_Mo_isSet zc_Mo hM1.mo d_Mo_deal_48 rfl (Nat.le_of_ble_eq_true rfl) ⟨by decide, by decide⟩ ⟨Nat.le_of_ble_eq_true rfl, Nat.le_of_ble_eq_true rfl⟩ ?_
          refine z_if_eq 63 d_Mo_deal_51 (by decide) (fun c_51 => ?_) (fun c_51 => ?_)
          · skip
            refine z_aload_n 0 d_Mo_deal_63 rfl rfl ?_
            refine z_iconst (v := 1) d_Mo_deal_64 (by decide) ?_
            refine z_callV0 (m_Mo_no hs0 hst hM1.mo 1) ym_Mo_no qM_Mo_119 qI_Mo_no qV_Mo_Mo_no zc_Mo hM1.mo d_Mo_deal_65 rfl (Nat.le_of_ble_eq_true rfl) ⟨by decide, by decide⟩ ⟨Nat.le_of_ble_eq_true rfl, Nat.le_of_ble_eq_true rfl⟩ ?_
            obtain ⟨V9, hM9, hK9, hF9, hT9⟩ := hM1.putT 1
            exact z_iret rfl (Or.inl ⟨by unfold zdok; first | (rw [(zb_0 _).mp c_12]; rfl) | (rw [(zb_0 _).mp c_21, Bool.false_and, Bool.and_false]) | (rw [(zb_0 _).mp c_30, Bool.false_and, Bool.and_false, Bool.and_false]) | (rw [(zb_0 _).mp c_42, Bool.false_and, Bool.and_false, Bool.and_false, Bool.and_false]) | (rw [(zb_0 _).mp c_51, Bool.false_and, Bool.and_false, Bool.and_false, Bool.and_false, Bool.and_false]) | (rw [zbc_512 g (by omega), decide_eq_false c_60, Bool.and_false, Bool.and_false, Bool.and_false, Bool.and_false, Bool.and_false]), ⟨rfl, V9, hM9, hT9, hK1.tr hK9, hF1.tr hF9⟩⟩) (by first | decide | omega) (by first | decide | omega) d_Mo_deal_68
          · skip
            obtain ⟨g, hg, rfl⟩ := zsetok_le hnk ((zb_n0 _).mp c_51)
            refine z_iload 5 d_Mo_deal_54 rfl ?_
            refine z_callS0 ((m_Mo_size hs0 hst (nn := g) (by omega))) ym_Mo_size qM_Mo_66 qS_Mo_size d_Mo_deal_56 rfl (Nat.le_of_ble_eq_true rfl) ⟨by decide, by decide⟩ ⟨Nat.le_of_ble_eq_true rfl, Nat.le_of_ble_eq_true rfl⟩ ?_
            refine z_iload_n 2 d_Mo_deal_59 rfl rfl ?_
            refine z_icmp_ge 69 d_Mo_deal_60 (by decide) (fun c_60 => ?_) (fun c_60 => ?_)
            · skip
              have hok : zdok nk x t z dt (nI g) = true := by
                unfold zdok
                rw [(zb_n0 _).mp c_12, (zb_n0 _).mp c_21, (zb_n0 _).mp c_30, (zb_n0 _).mp c_42, (zb_n0 _).mp c_51, zbc_512 g (by omega), decide_eq_true c_60]
                rfl
              refine z_aload_n 0 d_Mo_deal_69 rfl rfl ?_
              refine z_get zc_Mo 7 (by decide) qF_Mo_20 hM1.mo rfl d_Mo_deal_70 ?_
              refine z_callF0 (m_AL_size hs0 hst hM1.sl) ym_AL_size zF_AL_size qM_Mo_94 zc_AL hM1.sl d_Mo_deal_73 rfl (Nat.le_of_ble_eq_true rfl) ⟨by decide, by decide⟩ ⟨Nat.le_of_ble_eq_true rfl, Nat.le_of_ble_eq_true rfl⟩ ?_
              refine z_bipush (v := (nI 6)) d_Mo_deal_78 (by decide) ?_
              refine z_icmp_ne 89 d_Mo_deal_80 (by decide) (fun c_80 => ?_) (fun c_80 => ?_)
              · skip
                have hk6 : ns < 6 := Nat.lt_of_le_of_ne hns fun e => c_80 (by rw [e])
                obtain ⟨tn, ht1, ht4, rfl⟩ := zin14 ((zb_n0 _).mp c_21)
                refine z_new (fs := [.int 0, .int 0, .int 0, .int 0, .int 0, .int 0, .null, .null]) zc_MS qK_Mo_47 qO_MS qN_MS (by decide) ⟨by decide, by decide⟩ d_Mo_deal_89 (fun a ha hab => ?_)
                refine z_dup d_Mo_deal_92 rfl ?_
                refine z_iload_n 2 d_Mo_deal_93 rfl rfl ?_
                refine z_iload_n 3 d_Mo_deal_94 rfl rfl ?_
                refine z_iload 4 d_Mo_deal_95 rfl ?_
                refine z_callIp1 (m_MS_init hs0 hst (nI tn) z dt zu_s) ym_MS_init rfl qM_Mo_132 qI_MS_init d_Mo_deal_97 rfl (Nat.le_of_ble_eq_true rfl) ⟨by decide, by decide⟩ ⟨Nat.le_of_ble_eq_true rfl, Nat.le_of_ble_eq_true rfl⟩ (fun r_97 G_97 hp_97 => ?_)
                obtain ⟨hr_97, hs, he, hn1, hn2, m1, m2, m3, hg_97⟩ := hp_97
                obtain rfl : r_97 = none := hr_97
                have hn1' : (zu G (B 0) (zmh B 0 (V 0 1) (V 0 2) (V 0 3) (V 0 4) (V 0 5))) hs = none := by rw [zu_n m1.symm] at hn1; exact hn1
                have hn2' : (zu G (B 0) (zmh B 0 (V 0 1) (V 0 2) (V 0 3) (V 0 4) (V 0 5))) he = none := by rw [zu_n m2.symm] at hn2; exact hn2
                have ho : ∀ r, mlive nk ns ne r → B r ≠ a ∧ B r ≠ hs ∧ B r ≠ he := fun r hr => ⟨hM1.nn_ ha r hr, hM1.nn_ hn1' r hr, hM1.nn_ hn2' r hr⟩
                have hM2 : zM d B V1 nk ns ne ec G_97 := by
                  rw [hg_97]
                  exact (((hM1.out (fun r hr => (ho r hr).1)).out (fun r hr => (ho r hr).1)).out (fun r hr => (ho r hr).2.1)).out (fun r hr => (ho r hr).2.2)
                have hS2 : zMs d a hs he (nI tn) z dt 0 0 0 (zfl 8) (zfl 8) G_97 := by
                  rw [hg_97]
                  exact ⟨(zu_n m2).trans ((zu_n m1).trans zu_s), (zu_n m3).trans zu_s, zu_s, m3⟩
                have ha0 : G a = none := hF1.none_ hM1 ha
                have hhs0 : G hs = none := hF1.none_ hM1 hn1'
                have hhe0 : G he = none := hF1.none_ hM1 hn2'
                have hF2 : mFr B nk ns ne G G_97 := by
                  rw [hg_97]
                  exact (((hF1.nw ha0).nw ha0).nw hhs0).nw hhe0
                obtain ⟨V2, eV2⟩ : ∃ v, v = V1 := ⟨_, rfl⟩
                rw [← eV2] at hM2
                have hK2 : mLk V1 V2 (zlkn (nI tn) (V1 0 1) 1) := by rw [eV2]; exact mLk.z
                refine z_astore (L' := [(6, _), (0, _), (1, _), (2, _), (3, _), (4, _), (5, _)]) d_Mo_deal_100 (by decide) rfl ?_
                refine z_iload_n 3 d_Mo_deal_102 rfl rfl ?_
                refine z_newaI tn qA_int (nI_pos (by omega)) (nI_clamp (by omega)) (by show tn * 4 ≤ _; omega) ⟨by decide, by show _ + tn ≤ 300; omega⟩ d_Mo_deal_103 (fun ac hac hacb => ?_)
                refine z_widen (k := 4) (n := 28) (by omega) (by show 0 + 8 + 16 + tn ≤ 28; omega) ?_
                have hoc : ∀ r, mlive nk ns ne r → B r ≠ ac := hM2.nn_ hac
                have hac0 : G ac = none := hF2.none_ hM2 hac
                have hnc : ac ≠ a ∧ ac ≠ hs ∧ ac ≠ he := ⟨(ne_of_none hS2.1 hac).symm, (ne_of_none hS2.2.1 hac).symm, (ne_of_none hS2.2.2.1 hac).symm⟩
                refine z_astore (L' := [(7, _), (6, _), (0, _), (1, _), (2, _), (3, _), (4, _), (5, _)]) d_Mo_deal_105 (by decide) rfl ?_
                refine z_aload 0 d_Mo_deal_107 rfl ?_
                refine z_iconst (v := (nI 0)) d_Mo_deal_109 (by decide) ?_
                refine z_iload_n 3 d_Mo_deal_110 rfl rfl ?_
                refine z_iastN zu_s (show 0 < tn by omega) (by omega) d_Mo_deal_111 ?_
                refine z_one ?_
                refine z_iconst (v := (nI 1)) d_Mo_deal_112 (by decide) ?_
                refine z_istore (L' := [(8, _), (7, _), (6, _), (0, _), (1, _), (2, _), (3, _), (4, _), (5, _)]) d_Mo_deal_113 (by decide) rfl ?_
                have key_115 : ∀ (n : Nat) (i : Nat) (G2 : zG) (V2 : Nat → Nat → Int32) (fc : Nat → Int32), tn - i < n → (i ≤ tn) → (1 ≤ i) → (zM d B V2 nk ns ne ec G2) → (mLk V1 V2 (zlkn (nI tn) (V1 0 1) i)) → (mFr B nk ns ne G G2) → (zMs d a hs he (nI tn) z dt 0 0 0 (zfl 8) (zfl 8) G2) → (G2 ac = some (zI d tn fc)) → (∀ j, j < i → fc j = zcvn x (nI tn) (V1 0 1) j) → Z g0 d y_Mo_deal c_Mo_deal 9 ((Option.some Jvm.ClassFile.FieldType.int)) [] p l e (zR 10 8 300) s m args below meth c (vx_MQ below (zQc g0 d (fun r G1 => (zdok nk x (nI tn) z dt (nI g) = false ∧ mThr d B nk ns ne ec V G 1 r G1) ∨ (zdok nk x (nI tn) z dt (nI g) = true ∧ ns = 6 ∧ mThr d B nk ns ne ec V G 2 r G1) ∨ (zdok nk x (nI tn) z dt (nI g) = true ∧ ns < 6 ∧ r = some (.int (nI ns)) ∧ ∃ t9, 1 ≤ t9 ∧ t9 ≤ 4 ∧ (nI tn) = nI t9 ∧ ∃ V1 B' V' ne' ec', zKn V V1 ∧ V1 0 0 = 0 ∧ mDl V1 V' ns ne ne' t9 x z dt (nI g) ∧ zM d B' V' nk (ns + 1) ne' ec' G1 ∧ mNw B B' nk ns ne nk (ns + 1) ne' G ∧ mFr B nk ns ne G G1))) (zXc g0 d (zNo)) args s 8 300 (zA g0)) 4 28 (G2) [(8, .int (nI i)), (7, .ref ac), (6, .ref a), (0, .ref (B 0)), (1, .int x), (2, .int (nI tn)), (3, .int z), (4, .int dt), (5, .int (nI g))] [] 115 := by
                  intro n
                  induction n with
                  | zero => intro i G2 V2 fc h0; exact absurd h0 (Nat.not_lt_zero _)
                  | succ n ih_115 =>
                    intro i G2 V2 fc hm_115 hi h1i hM2 hK2 hF2 hS2 hA2 hC2
                    refine z_iload 0 d_Mo_deal_115 rfl ?_
                    refine z_iload_n 5 d_Mo_deal_117 rfl rfl ?_
                    refine z_icmp_ge 136 d_Mo_deal_118 (by decide) (fun c_118 => ?_) (fun c_118 => ?_)
                    · skip
                      obtain rfl : tn = i := by
                        have := (nI_leI (a := tn) (b := i) (by omega) (by omega)).mp c_118
                        omega
                      refine z_iconst (v := (nI 0)) d_Mo_deal_136 (by decide) ?_
                      refine z_istore (L' := [(8, _), (7, _), (6, _), (0, _), (1, _), (2, _), (3, _), (4, _), (5, _)]) d_Mo_deal_137 (by decide) rfl ?_
                      have key_139 : ∀ (n : Nat) (i : Nat) (G2 : zG) (V2 : Nat → Nat → Int32) (u1 u2 : Nat → Int32), 8 - i < n → (i ≤ 8) → (zM d B V2 nk ns ne ec G2) → (mLk V1 V2 (zlkn (nI tn) (V1 0 1) tn)) → (mFr B nk ns ne G G2) → (zMs d a hs he (nI tn) z dt 0 0 0 u1 u2 G2) → (G2 ac = some (zI d tn fc)) → (∀ j, nk ≤ j → j < 8 → u1 j = -1) → (zSh (nI g) (fun j => zcN fc (nI j + 1) tn tn) u1 u2 i) → Z g0 d y_Mo_deal c_Mo_deal 9 ((Option.some Jvm.ClassFile.FieldType.int)) [] p l e (zR 10 8 300) s m args below meth c (vx_MQ below (zQc g0 d (fun r G1 => (zdok nk x (nI tn) z dt (nI g) = false ∧ mThr d B nk ns ne ec V G 1 r G1) ∨ (zdok nk x (nI tn) z dt (nI g) = true ∧ ns = 6 ∧ mThr d B nk ns ne ec V G 2 r G1) ∨ (zdok nk x (nI tn) z dt (nI g) = true ∧ ns < 6 ∧ r = some (.int (nI ns)) ∧ ∃ t9, 1 ≤ t9 ∧ t9 ≤ 4 ∧ (nI tn) = nI t9 ∧ ∃ V1 B' V' ne' ec', zKn V V1 ∧ V1 0 0 = 0 ∧ mDl V1 V' ns ne ne' t9 x z dt (nI g) ∧ zM d B' V' nk (ns + 1) ne' ec' G1 ∧ mNw B B' nk ns ne nk (ns + 1) ne' G ∧ mFr B nk ns ne G G1))) (zXc g0 d (zNo)) args s 8 300 (zA g0)) 4 28 (G2) [(8, .int (nI i)), (7, .ref ac), (6, .ref a), (0, .ref (B 0)), (1, .int x), (2, .int (nI tn)), (3, .int z), (4, .int dt), (5, .int (nI g))] [] 139 := by
                        intro n
                        induction n with
                        | zero => intro i G2 V2 u1 u2 h0; exact absurd h0 (Nat.not_lt_zero _)
                        | succ n ih_139 =>
                          intro i G2 V2 u1 u2 hm_139 hi hM2 hK2 hF2 hS2 hA2 hu1 hH2
                          refine z_iload 0 d_Mo_deal_139 rfl ?_
                          refine z_bipush (v := 8) d_Mo_deal_141 (by decide) ?_
                          refine z_icmp_ge 191 d_Mo_deal_143 (by decide) (fun c_143 => ?_) (fun c_143 => ?_)
                          · skip
                            obtain rfl : i = 8 := by
                              have := (nI_leI (a := 8) (b := i) (by decide) (by omega)).mp c_143
                              omega
                            refine z_aload_n 3 d_Mo_deal_191 rfl rfl ?_
                            refine z_get zc_Mo 7 (by decide) qF_Mo_20 hM2.mo rfl d_Mo_deal_192 ?_
                            refine z_aload 2 d_Mo_deal_195 rfl ?_
                            refine z_callFp1 ((m_AL_addM hs0 hst hM2.sl hM2.sq.1 hM2.sq.2 (Or.inl ⟨11, _, _, _, _, _, zc_MS, qT_MS_Oj, hS2.1⟩))) ym_AL_add_1 zF_AL_add_1 qM_Mo_111 zc_AL hM2.sl d_Mo_deal_197 rfl (Nat.le_of_ble_eq_true rfl) ⟨by decide, by decide⟩ ⟨Nat.le_of_ble_eq_true rfl, Nat.le_of_ble_eq_true rfl⟩ (fun r_197 G_197 hp_197 => ?_)
                            obtain ⟨hr_197, b, cap', f', hd9, hf1, hf2, hf3, hg_197⟩ := hp_197
                            obtain rfl : r_197 = some (.int 1) := hr_197
                            have hd8 : (b = B 4 ∧ 0 < ns) ∨ G2 b = none := by
                              rcases hd9 with ⟨q1, q2, -⟩ | ⟨q1, -⟩
                              · exact Or.inl ⟨q1, q2⟩
                              · exact Or.inr q1
                            have hcap : cap' = 10 := by
                              rcases hd9 with ⟨-, -, q1, -⟩ | ⟨-, -, q1⟩ <;> omega
                            subst hcap
                            have hfe : f' = fun j => if j < ns + 1 then some (zBi B ns a hs he b (200 + j)) else none := funext fun j => by
                              by_cases e1 : j < ns
                              · rw [if_pos (by omega), hf1 j e1]
                                refine (if_pos e1).trans ?_
                                exact congrArg some ((if_neg (by omega)).trans ((if_neg (by omega)).trans ((if_neg (by omega)).trans (if_neg (by omega))))).symm
                              · by_cases e2 : j = ns
                                · subst e2
                                  rw [if_pos (by omega), hf2]
                                  exact congrArg some (if_pos rfl).symm
                                · rw [if_neg (by omega)]
                                  exact hf3 j (by omega) (fun i hi => if_neg (by omega))
                            have hnw := hM2.newi hk6 (w := zs6n (nI tn) z dt 0 0 0) ⟨tn, ht1, ht4, rfl⟩ ⟨false, rfl⟩ hu1 (V2 3 0 + 1) hS2 ho hd8 hfe
                            rw [← hg_197] at hnw
                            obtain ⟨V5, eV5⟩ : ∃ v, v = rset (rset (rset (rset V2 (200 + ns) (zs6n (nI tn) z dt 0 0 0)) (300 + ns) u1) (400 + ns) u2) 3 (fun _ => V2 3 0 + 1) := ⟨_, rfl⟩
                            rw [← eV5] at hnw
                            obtain ⟨hM5, hF5⟩ := hnw
                            have hbG : (b = B 4 ∧ 0 < ns) ∨ G b = none := hd8.imp_right (fun q => hF2.none_ hM2 q)
                            have hN5 : mNw B (zBi B ns a hs he b) nk ns ne nk (ns + 1) ne G := mNw.i ha0 hhs0 hhe0 hbG hnk hk6
                            have hmo5 := hM5.mo
                            rw [hN5.1] at hmo5
                            have hwr := m_Mo_writeE hs0 hst hM5 0 (nI ns)
                            rw [hN5.1] at hwr
                            refine z_pop d_Mo_deal_202 rfl ?_
                            refine z_aload_n 3 d_Mo_deal_203 rfl rfl ?_
                            refine z_iconst (v := 0) d_Mo_deal_204 (by decide) ?_
                            refine z_aload_n 3 d_Mo_deal_205 rfl rfl ?_
                            refine z_get zc_Mo 7 (by decide) qF_Mo_20 hmo5 rfl d_Mo_deal_206 ?_
                            refine z_callF0 ((m_AL_size hs0 hst hM5.sl)) ym_AL_size zF_AL_size qM_Mo_94 zc_AL hM5.sl d_Mo_deal_209 rfl (Nat.le_of_ble_eq_true rfl) ⟨by decide, by decide⟩ ⟨Nat.le_of_ble_eq_true rfl, Nat.le_of_ble_eq_true rfl⟩ ?_
                            refine z_iconst (v := (nI 1)) d_Mo_deal_214 (by decide) ?_
                            refine z_isub d_Mo_deal_215 ?_
                            refine z_topv (v := nI ns) (nI_pred ns) ?_
                            refine z_callVp1 (hwr) ym_Mo_write qM_Mo_143 qI_Mo_write qV_Mo_Mo_write zc_Mo hmo5 d_Mo_deal_216 rfl (Nat.le_of_ble_eq_true rfl) ⟨by decide, by decide⟩ ⟨Nat.le_of_ble_eq_true rfl, Nat.le_of_ble_eq_true rfl⟩ (fun r_216 G_216 hp_216 => ?_)
                            obtain ⟨hr_216, B7, V7, ne7, ec7, hM7, hK7, hN7, hF7, hB7⟩ := hp_216
                            obtain rfl : r_216 = none := hr_216
                            have hmo7 := hM7.mo
                            rw [(hB7 0 (by omega) (by omega)).trans hN5.1] at hmo7
                            have hsl7 := hM7.sl
                            refine z_aload_n 3 d_Mo_deal_219 rfl rfl ?_
                            refine z_get zc_Mo 7 (by decide) qF_Mo_20 hmo7 rfl d_Mo_deal_220 ?_
                            refine z_callF0 ((m_AL_size hs0 hst hsl7)) ym_AL_size zF_AL_size qM_Mo_94 zc_AL hsl7 d_Mo_deal_223 rfl (Nat.le_of_ble_eq_true rfl) ⟨by decide, by decide⟩ ⟨Nat.le_of_ble_eq_true rfl, Nat.le_of_ble_eq_true rfl⟩ ?_
                            refine z_iconst (v := (nI 1)) d_Mo_deal_228 (by decide) ?_
                            refine z_isub d_Mo_deal_229 ?_
                            refine z_topv (v := nI ns) (nI_pred ns) ?_
                            exact z_iret rfl (Or.inr (Or.inr ⟨hok, hk6, rfl, tn, ht1, ht4, rfl, V1, B7, V7, ne7, ec7, hK1, hT1, ⟨V2, fc, u1, u2, V2 3 0 + 1, hK2, hC2, hH2, by rw [← eV5]; exact hK7⟩, hM7, hN5.tr hN7 (hF2.tr hF5) hM.ne0, hN5.fr (hF2.tr hF5) hF7⟩)) (by first | decide | omega) (by first | decide | omega) d_Mo_deal_230
                          · skip
                            have hi6 : i < 8 := Nat.lt_of_not_le fun q => c_143 (nI_le (a := 8) (b := i) q (by omega))
                            refine z_iload 8 d_Mo_deal_146 rfl ?_
                            refine z_iload 0 d_Mo_deal_148 rfl ?_
                            refine z_callS0 (m_Mo_has hs0 hst (nI g) (nI i)) ym_Mo_has qM_Mo_76 qS_Mo_has d_Mo_deal_150 rfl (Nat.le_of_ble_eq_true rfl) ⟨by decide, by decide⟩ ⟨Nat.le_of_ble_eq_true rfl, Nat.le_of_ble_eq_true rfl⟩ ?_
                            refine z_if_ne 159 d_Mo_deal_153 (by decide) (fun c_153 => ?_) (fun c_153 => ?_)
                            · skip
                              have hk6 : i < nk := zbt_lt hg (by omega) hi6 c_153
                              have hf3 : zbt (nI g) i = true := (zb_n0 _).mp c_153
                              refine z_aload 2 d_Mo_deal_159 rfl ?_
                              refine z_get zc_MS 6 (by decide) qF_Mo_46 hS2.1 rfl d_Mo_deal_161 ?_
                              refine z_iload 0 d_Mo_deal_164 rfl ?_
                              refine z_aload 1 d_Mo_deal_166 rfl ?_
                              refine z_iload 0 d_Mo_deal_168 rfl ?_
                              refine z_iconst (v := 1) d_Mo_deal_170 (by decide) ?_
                              refine z_iadd d_Mo_deal_171 ?_
                              refine z_callS1 ((m_Mo_atE hs0 hst hA2 (by omega) (nI i + 1))) ym_Mo_at qM_Mo_136 qS_Mo_at d_Mo_deal_172 rfl (Nat.le_of_ble_eq_true rfl) ⟨by decide, by decide⟩ ⟨Nat.le_of_ble_eq_true rfl, Nat.le_of_ble_eq_true rfl⟩ ?_
                              refine z_iastN hS2.2.1 (hi6) (by decide) d_Mo_deal_175 ?_
                              have hS5 := hS2.ush (upd u1 i (zcN fc (nI i + 1) tn tn))
                              refine z_aload 2 d_Mo_deal_176 rfl ?_
                              refine z_get zc_MS 7 (by decide) qF_Mo_140 hS5.1 rfl d_Mo_deal_178 ?_
                              refine z_iload 0 d_Mo_deal_181 rfl ?_
                              refine z_iconst (v := 0) d_Mo_deal_183 (by decide) ?_
                              refine z_iastN hS5.2.2.1 (hi6) (by decide) d_Mo_deal_184 ?_
                              have hS6 := hS5.uep (upd u2 i 0)
                              refine z_iinc (v := nI (i + 1)) (L' := [(8, _), (7, _), (6, _), (0, _), (1, _), (2, _), (3, _), (4, _), (5, _)]) 0 d_Mo_deal_185 rfl (nI_1 i) (by decide) rfl ?_
                              refine z_goto 139 d_Mo_deal_188 (by decide) ?_
                              first
                                | (have hq := hf3
                                   exact ih_139 (i + 1) _ _ _ _ (by omega) (by omega) ((hM2.out (fun r hr => (ho r hr).2.1)).out (fun r hr => (ho r hr).2.2)) hK2 ((hF2.nw hhs0).nw hhe0) hS6 ((zu_n hnc.2.2).trans ((zu_n hnc.2.1).trans hA2)) (fun j h1 h2 => (pk_un (by omega)).trans (hu1 j h1 h2)) (hH2.hold hq rfl))
                                | exact ih_139 (i + 1) _ _ _ _ (by omega) (by omega) hM2 hK2 hF2 hS2 hA2 hu1 (hH2.skip hf2)
                            · skip
                              have hf2 : zbt (nI g) i = false := (zb_0 _).mp c_153
                              refine z_goto 185 d_Mo_deal_156 (by decide) ?_
                              refine z_iinc (v := nI (i + 1)) (L' := [(8, _), (7, _), (6, _), (0, _), (1, _), (2, _), (3, _), (4, _), (5, _)]) 0 d_Mo_deal_185 rfl (nI_1 i) (by decide) rfl ?_
                              refine z_goto 139 d_Mo_deal_188 (by decide) ?_
                              first
                                | (have hq := hf3
                                   exact ih_139 (i + 1) _ _ _ _ (by omega) (by omega) ((hM2.out (fun r hr => (ho r hr).2.1)).out (fun r hr => (ho r hr).2.2)) hK2 ((hF2.nw hhs0).nw hhe0) hS6 ((zu_n hnc.2.2).trans ((zu_n hnc.2.1).trans hA2)) (fun j h1 h2 => (pk_un (by omega)).trans (hu1 j h1 h2)) (hH2.hold hq rfl))
                                | exact ih_139 (i + 1) _ _ _ _ (by omega) (by omega) hM2 hK2 hF2 hS2 hA2 hu1 (hH2.skip hf2)
                      exact key_139 9 0 _ _ _ _ (by omega) (by omega) hM2 hK2 hF2 hS2 hA2 (fun j _ h8 => if_pos h8) zSh.z
                    · skip
                      have hi6 : i < tn := Nat.lt_of_not_le fun q => c_118 (nI_le q (by omega))
                      refine z_aload 1 d_Mo_deal_121 rfl ?_
                      refine z_iload 0 d_Mo_deal_123 rfl ?_
                      refine z_aload_n 3 d_Mo_deal_125 rfl rfl ?_
                      refine z_callVp1 ((m_Mo_drawE hs0 hst hM2)) ym_Mo_draw qM_Mo_133 qI_Mo_draw qV_Mo_Mo_draw zc_Mo hM2.mo d_Mo_deal_126 rfl (Nat.le_of_ble_eq_true rfl) ⟨by decide, by decide⟩ ⟨Nat.le_of_ble_eq_true rfl, Nat.le_of_ble_eq_true rfl⟩ (fun r_126 G_126 hp_126 => ?_)
                      obtain ⟨hr_126, hM3, hF3⟩ := hp_126
                      obtain rfl : r_126 = _ := hr_126
                      have hA3 := hF3 _ _ hA2 (fun r hr => (hoc r hr).symm)
                      have hS3 := hS2.fr hF3 ho
                      refine z_iastN hA3 (show i < tn by omega) (by omega) d_Mo_deal_129 ?_
                      refine z_iinc (v := nI (i + 1)) (L' := [(8, _), (7, _), (6, _), (0, _), (1, _), (2, _), (3, _), (4, _), (5, _)]) 0 d_Mo_deal_130 rfl (nI_1 i) (by decide) rfl ?_
                      refine z_goto 115 d_Mo_deal_133 (by decide) ?_
                      exact ih_115 (i + 1) _ _ _ (by omega) (by omega) (by omega) (hM3.out hoc) (hK2.s h1i hi6 ht4) ((hF2.tr hF3).nw hac0) (hS3.ubs hnc) zu_s (fun j hj => by
                        by_cases e : j = i
                        · subst e; rw [pk_us, zcvn_i h1i hi6 ht4, hK2.1.2.1]
                        · rw [pk_un e]; exact hC2 j (by omega))
                exact key_115 (tn + 1) 1 _ _ _ (by omega) ht1 (by decide) (hM2.out hoc) hK2 (hF2.nw hac0) (hS2.ubs hnc) zu_s (fun j hj => by
                  have hj0 : j = 0 := Nat.lt_one_iff.mp hj
                  subst hj0
                  exact pk_us)
              · skip
                refine z_aload_n 0 d_Mo_deal_83 rfl rfl ?_
                refine z_iconst (v := 2) d_Mo_deal_84 (by decide) ?_
                refine z_callV0 (m_Mo_no hs0 hst hM1.mo 2) ym_Mo_no qM_Mo_119 qI_Mo_no qV_Mo_Mo_no zc_Mo hM1.mo d_Mo_deal_85 rfl (Nat.le_of_ble_eq_true rfl) ⟨by decide, by decide⟩ ⟨Nat.le_of_ble_eq_true rfl, Nat.le_of_ble_eq_true rfl⟩ ?_
                obtain ⟨V9, hM9, hK9, hF9, hT9⟩ := hM1.putT 2
                exact z_iret rfl (Or.inr (Or.inl ⟨hok, (nI_eq (by omega) (by decide)).mp (by first | exact c_80 | exact Decidable.not_not.mp c_80), ⟨rfl, V9, hM9, hT9, hK1.tr hK9, hF1.tr hF9⟩⟩)) (by first | decide | omega) (by first | decide | omega) d_Mo_deal_88
            · skip
              refine z_aload_n 0 d_Mo_deal_63 rfl rfl ?_
              refine z_iconst (v := 1) d_Mo_deal_64 (by decide) ?_
              refine z_callV0 (m_Mo_no hs0 hst hM1.mo 1) ym_Mo_no qM_Mo_119 qI_Mo_no qV_Mo_Mo_no zc_Mo hM1.mo d_Mo_deal_65 rfl (Nat.le_of_ble_eq_true rfl) ⟨by decide, by decide⟩ ⟨Nat.le_of_ble_eq_true rfl, Nat.le_of_ble_eq_true rfl⟩ ?_
              obtain ⟨V9, hM9, hK9, hF9, hT9⟩ := hM1.putT 1
              exact z_iret rfl (Or.inl ⟨by unfold zdok; first | (rw [(zb_0 _).mp c_12]; rfl) | (rw [(zb_0 _).mp c_21, Bool.false_and, Bool.and_false]) | (rw [(zb_0 _).mp c_30, Bool.false_and, Bool.and_false, Bool.and_false]) | (rw [(zb_0 _).mp c_42, Bool.false_and, Bool.and_false, Bool.and_false, Bool.and_false]) | (rw [(zb_0 _).mp c_51, Bool.false_and, Bool.and_false, Bool.and_false, Bool.and_false, Bool.and_false]) | (rw [zbc_512 g (by omega), decide_eq_false c_60, Bool.and_false, Bool.and_false, Bool.and_false, Bool.and_false, Bool.and_false]), ⟨rfl, V9, hM9, hT9, hK1.tr hK9, hF1.tr hF9⟩⟩) (by first | decide | omega) (by first | decide | omega) d_Mo_deal_68

/-- the place of a role in the order of the reference's constructor -/
def mix (r : Nat) : Nat := match r with | 0 => 0 | 1 => 1 | 3 => 2 | 5 => 3 | 7 => 4 | 8 => 5 | _ => 6
theorem mix_inj : ∀ r, r < 10 → ∀ q, q < 10 → (r ≠ 2 ∧ r ≠ 4 ∧ r ≠ 6 ∧ q ≠ 2 ∧ q ≠ 4 ∧ q ≠ 6 ∧ mix r = mix q) → r = q := by decide
theorem mix_lt : ∀ r, r < 10 → mix r < 7 := by decide
theorem mix_0 : ∀ r, r < 10 → r ≠ 0 → 1 ≤ mix r := by decide
def mV0 : Nat → Nat → Int32 := fun r => match r with | 0 => zm6 0 23 0 0 0 0 | _ => fun _ => 0
theorem zM.init {d : zD} {h : Nat} {G0 G : zG} {L : List (Nat × va_E)} (hL : zLs h G0 L G) (hl : L.length = 6) (h0 : ∀ r, r < 10 → r ≠ 2 → r ≠ 4 → r ≠ 6 → G (zad h L (mix r)) = some (mcell d (fun q => zad h L (mix q)) 10 0 0 0 r (mV0 r))) : zM d (fun q => zad h L (mix q)) mV0 0 0 0 10 G := by
  have hz : ∀ r, mlive 0 0 0 r → r < 10 ∧ r ≠ 2 ∧ r ≠ 4 ∧ r ≠ 6 := fun r hr => by unfold mlive at hr; omega
  refine ⟨⟨fun r q hr hq e => ?_, fun r hr => ?_⟩, by decide, by decide, by decide, Or.inl rfl, by decide, fun i hi => absurd hi (Nat.not_lt_zero _), fun i hi => absurd hi (Nat.not_lt_zero _), fun i hi => absurd hi (Nat.not_lt_zero _), fun i hi => absurd hi (Nat.not_lt_zero _)⟩
  · obtain ⟨a1, a2, a3, a4⟩ := hz r hr
    obtain ⟨b1, b2, b3, b4⟩ := hz q hq
    exact mix_inj r a1 q b1 ⟨a2, a3, a4, b2, b3, b4, hL.inj (by rw [hl]; exact mix_lt r a1) (by rw [hl]; exact mix_lt q b1) e⟩
  · obtain ⟨a1, a2, a3, a4⟩ := hz r hr
    exact h0 r a1 a2 a3 a4


/-- the inverse mod 97 -/
def zinv (k : Nat) : Nat := k ^ 95 % 97
theorem zinv_iff : ∀ k, k < 97 → ∀ n, n < 97 → (k * n % 97 = 1 ↔ 1 ≤ k ∧ n = zinv k) := by decide +kernel
theorem zinv_lt (k : Nat) : zinv k < 97 := Nat.mod_lt _ (by decide)
theorem zinv_v : zVv zinv := fun d h1 h2 => (zinv_iff d h2 (zinv d) (zinv_lt d)).mpr ⟨h1, rfl⟩
theorem zinv_p : ∀ k, k < 97 → 1 ≤ k → 1 ≤ zinv k := by decide +kernel
/-- the class's table -/
theorem zti_inv : ∀ j, j < 97 → zti 95 j = nI (zinv j) := by decide +kernel
/-- the reference's table while it is reckoned: of those below a, and of a where below b -/
def mIv (f : Nat → Int32) (a b : Nat) : Prop := ∀ k, k < 97 → f k = nI (if 1 ≤ k ∧ (k < a ∨ (k = a ∧ zinv k < b)) then zinv k else 0)
theorem mIv.z : mIv (fun _ => 0) 1 1 := fun k hk => by
  rw [if_neg (fun q => by
    have := zinv_p k hk q.1
    omega)]
  exact nI_0.symm
theorem mIv.n {f : Nat → Int32} {a : Nat} (h : mIv f a 97) : mIv f (a + 1) 1 := fun k hk => by
  rw [h k hk]
  have h1 := zinv_lt k
  by_cases c : 1 ≤ k
  · have h2 := zinv_p k hk c
    by_cases e : k < a + 1
    · rw [if_pos ⟨c, by omega⟩, if_pos ⟨c, Or.inl e⟩]
    · rw [if_neg (by omega), if_neg (by omega)]
  · rw [if_neg (fun q => c q.1), if_neg (fun q => c q.1)]
theorem mIv.skip {f : Nat → Int32} {a b : Nat} (h : mIv f a b) (ha : a < 97) (hb : b < 97) (hn : ¬ a * b % 97 = 1) : mIv f a (b + 1) := fun k hk => by
  rw [h k hk]
  by_cases c : 1 ≤ k ∧ (k < a ∨ (k = a ∧ zinv k < b))
  · rw [if_pos c, if_pos ⟨c.1, c.2.imp_right (fun q => ⟨q.1, by omega⟩)⟩]
  · rw [if_neg c, if_neg (fun q => c ⟨q.1, ?_⟩)]
    rcases q.2 with q2 | ⟨q2, q3⟩
    · exact Or.inl q2
    · refine Or.inr ⟨q2, ?_⟩
      have : zinv k ≠ b := fun e => hn ((zinv_iff a ha b hb).mpr ⟨by omega, by rw [← q2]; exact e.symm⟩)
      omega
theorem mIv.set {f : Nat → Int32} {a b : Nat} (h : mIv f a b) (ha : a < 97) (hb : b < 97) (hn : a * b % 97 = 1) : mIv (upd f a (nI b)) a (b + 1) := fun k hk => by
  obtain ⟨h1, e⟩ := (zinv_iff a ha b hb).mp hn
  by_cases c : k = a
  · subst c
    rw [pk_us, if_pos ⟨h1, Or.inr ⟨rfl, by omega⟩⟩, e]
  · rw [pk_un c, h k hk]
    by_cases c2 : 1 ≤ k ∧ (k < a ∨ (k = a ∧ zinv k < b))
    · rw [if_pos c2, if_pos ⟨c2.1, c2.2.imp_right (fun q => absurd q.1 c)⟩]
    · rw [if_neg c2, if_neg (fun q => c2 ⟨q.1, q.2.imp_right (fun z => absurd z.1 c)⟩)]
theorem mIv.fin {f : Nat → Int32} (h : mIv f 97 1) : zIv f zinv := fun k hk => by
  refine ⟨?_, zinv_lt k⟩
  rw [h k hk]
  by_cases c : 1 ≤ k
  · rw [if_pos ⟨c, Or.inl hk⟩]
  · obtain rfl : k = 0 := by omega
    rfl
theorem c97 {k j : Nat} (hk : k < 97) (hj : j < 97) : nI k * nI j - nI k * nI j / 97 * 97 = 1 ↔ k * j % 97 = 1 := by
  have hm : k * j ≤ 96 * 96 := Nat.mul_le_mul (by omega) (by omega)
  have e : nI k * nI j - nI k * nI j / 97 * 97 = nI (k * j % 97) := by
    rw [pk_mul, show (97 : Int32) = nI 97 from rfl]
    exact pk_rem (by omega) (by decide) (by decide)
  rw [e, show (1 : Int32) = nI 1 from rfl]
  exact nI_eq (by omega) (by decide)

theorem d_Mo_init_0 : decode c_Mo_init 0 = .ok (.aload_n 0, 1) := by decide +kernel
theorem d_Mo_init_1 : decode c_Mo_init 1 = .ok (.invokespecial 1, 3) := by decide +kernel
theorem d_Mo_init_4 : decode c_Mo_init 4 = .ok (.aload_n 0, 1) := by decide +kernel
theorem d_Mo_init_5 : decode c_Mo_init 5 = .ok (.bipush 23, 2) := by decide +kernel
theorem d_Mo_init_7 : decode c_Mo_init 7 = .ok (.putfield 7, 3) := by decide +kernel
theorem d_Mo_init_10 : decode c_Mo_init 10 = .ok (.aload_n 0, 1) := by decide +kernel
theorem d_Mo_init_11 : decode c_Mo_init 11 = .ok (.new 13, 3) := by decide +kernel
theorem d_Mo_init_14 : decode c_Mo_init 14 = .ok (.dup, 1) := by decide +kernel
theorem d_Mo_init_15 : decode c_Mo_init 15 = .ok (.invokespecial 15, 3) := by decide +kernel
theorem d_Mo_init_18 : decode c_Mo_init 18 = .ok (.putfield 16, 3) := by decide +kernel
theorem d_Mo_init_21 : decode c_Mo_init 21 = .ok (.aload_n 0, 1) := by decide +kernel
theorem d_Mo_init_22 : decode c_Mo_init 22 = .ok (.new 13, 3) := by decide +kernel
theorem d_Mo_init_25 : decode c_Mo_init 25 = .ok (.dup, 1) := by decide +kernel
theorem d_Mo_init_26 : decode c_Mo_init 26 = .ok (.invokespecial 15, 3) := by decide +kernel
theorem d_Mo_init_29 : decode c_Mo_init 29 = .ok (.putfield 20, 3) := by decide +kernel
theorem d_Mo_init_32 : decode c_Mo_init 32 = .ok (.aload_n 0, 1) := by decide +kernel
theorem d_Mo_init_33 : decode c_Mo_init 33 = .ok (.new 13, 3) := by decide +kernel
theorem d_Mo_init_36 : decode c_Mo_init 36 = .ok (.dup, 1) := by decide +kernel
theorem d_Mo_init_37 : decode c_Mo_init 37 = .ok (.invokespecial 15, 3) := by decide +kernel
theorem d_Mo_init_40 : decode c_Mo_init 40 = .ok (.putfield 23, 3) := by decide +kernel
theorem d_Mo_init_43 : decode c_Mo_init 43 = .ok (.aload_n 0, 1) := by decide +kernel
theorem d_Mo_init_44 : decode c_Mo_init 44 = .ok (.bipush 97, 2) := by decide +kernel
theorem d_Mo_init_46 : decode c_Mo_init 46 = .ok (.newarray .int, 2) := by decide +kernel
theorem d_Mo_init_48 : decode c_Mo_init 48 = .ok (.putfield 26, 3) := by decide +kernel
theorem d_Mo_init_51 : decode c_Mo_init 51 = .ok (.aload_n 0, 1) := by decide +kernel
theorem d_Mo_init_52 : decode c_Mo_init 52 = .ok (.bipush 8, 2) := by decide +kernel
theorem d_Mo_init_54 : decode c_Mo_init 54 = .ok (.newarray .int, 2) := by decide +kernel
theorem d_Mo_init_56 : decode c_Mo_init 56 = .ok (.putfield 30, 3) := by decide +kernel
theorem d_Mo_init_59 : decode c_Mo_init 59 = .ok (.aload_n 0, 1) := by decide +kernel
theorem d_Mo_init_60 : decode c_Mo_init 60 = .ok (.bipush 8, 2) := by decide +kernel
theorem d_Mo_init_62 : decode c_Mo_init 62 = .ok (.newarray .int, 2) := by decide +kernel
theorem d_Mo_init_64 : decode c_Mo_init 64 = .ok (.putfield 33, 3) := by decide +kernel
theorem d_Mo_init_67 : decode c_Mo_init 67 = .ok (.iconst 1, 1) := by decide +kernel
theorem d_Mo_init_68 : decode c_Mo_init 68 = .ok (.istore_n 1, 1) := by decide +kernel
theorem d_Mo_init_69 : decode c_Mo_init 69 = .ok (.iload_n 1, 1) := by decide +kernel
theorem d_Mo_init_70 : decode c_Mo_init 70 = .ok (.bipush 97, 2) := by decide +kernel
theorem d_Mo_init_72 : decode c_Mo_init 72 = .ok (.if_icmp .ge 40, 3) := by decide +kernel
theorem d_Mo_init_75 : decode c_Mo_init 75 = .ok (.iconst 1, 1) := by decide +kernel
theorem d_Mo_init_76 : decode c_Mo_init 76 = .ok (.istore_n 2, 1) := by decide +kernel
theorem d_Mo_init_77 : decode c_Mo_init 77 = .ok (.iload_n 2, 1) := by decide +kernel
theorem d_Mo_init_78 : decode c_Mo_init 78 = .ok (.bipush 97, 2) := by decide +kernel
theorem d_Mo_init_80 : decode c_Mo_init 80 = .ok (.if_icmp .ge 26, 3) := by decide +kernel
theorem d_Mo_init_83 : decode c_Mo_init 83 = .ok (.iload_n 1, 1) := by decide +kernel
theorem d_Mo_init_84 : decode c_Mo_init 84 = .ok (.iload_n 2, 1) := by decide +kernel
theorem d_Mo_init_85 : decode c_Mo_init 85 = .ok (.imul, 1) := by decide +kernel
theorem d_Mo_init_86 : decode c_Mo_init 86 = .ok (.bipush 97, 2) := by decide +kernel
theorem d_Mo_init_88 : decode c_Mo_init 88 = .ok (.irem, 1) := by decide +kernel
theorem d_Mo_init_89 : decode c_Mo_init 89 = .ok (.iconst 1, 1) := by decide +kernel
theorem d_Mo_init_90 : decode c_Mo_init 90 = .ok (.if_icmp .ne 10, 3) := by decide +kernel
theorem d_Mo_init_93 : decode c_Mo_init 93 = .ok (.aload_n 0, 1) := by decide +kernel
theorem d_Mo_init_94 : decode c_Mo_init 94 = .ok (.getfield 26, 3) := by decide +kernel
theorem d_Mo_init_97 : decode c_Mo_init 97 = .ok (.iload_n 1, 1) := by decide +kernel
theorem d_Mo_init_98 : decode c_Mo_init 98 = .ok (.iload_n 2, 1) := by decide +kernel
theorem d_Mo_init_99 : decode c_Mo_init 99 = .ok (.iastore, 1) := by decide +kernel
theorem d_Mo_init_100 : decode c_Mo_init 100 = .ok (.iinc 2 1, 3) := by decide +kernel
theorem d_Mo_init_103 : decode c_Mo_init 103 = .ok (.goto (-26), 3) := by decide +kernel
theorem d_Mo_init_106 : decode c_Mo_init 106 = .ok (.iinc 1 1, 3) := by decide +kernel
theorem d_Mo_init_109 : decode c_Mo_init 109 = .ok (.goto (-40), 3) := by decide +kernel
theorem d_Mo_init_112 : decode c_Mo_init 112 = .ok (.return_, 1) := by decide +kernel
set_option maxHeartbeats 4000000 in
set_option maxRecDepth 100000 in
theorem m_Mo_initE {g0 : State} {d : zD} {l : Launch} {a0 : Array Value} (hs0 : zS0 d a0 g0) (hst : l.stackTraces = false) {G : zG} {h : Nat} (hG_M0 : G h = some (zob 12 [.int 0, .int 0, .int 0, .int 0, .int 0, .int 0, .null, .null, .null, .null, .null, .null])) : zMet g0 d l y_Mo_init c_Mo_init 3 ((Option.none : Option Jvm.ClassFile.FieldType)) 4 6 122 [.ref h] (G) (fun r G1 => r = none ∧ ∃ B9 V9, B9 0 = h ∧ zM d B9 V9 0 0 0 10 G1 ∧ (∀ r, r ≠ 7 → V9 r = mV0 r) ∧ zIv (V9 7) zinv ∧ (∀ r, mlive 0 0 0 r → B9 r = h ∨ G (B9 r) = none) ∧ ∀ q v, G q = some v → q ≠ h → G1 q = some v) (zNo) := by
  have hMo := hG_M0
  have hL : zLs h G [] G := zLs.nil
  refine z_entry hs0 hst (by decide) (Nat.le_of_ble_eq_true rfl) (fun p e s m args below meth c => ?_)
  refine z_aload_n 0 d_Mo_init_0 rfl rfl ?_
  refine z_objInit qM_Mo_1 qI_Oj_init_0566 qC_Oj_init_0566 d_Mo_init_1 (by decide) ⟨by decide, by decide⟩ ?_
  refine z_aload_n 0 d_Mo_init_4 rfl rfl ?_
  refine z_bipush (v := 23) d_Mo_init_5 (by decide) ?_
  refine z_put zc_Mo 1 (by decide) qF_Mo_7 hMo rfl rfl rfl (Nat.le_of_ble_eq_true rfl) d_Mo_init_7 ?_
  have hL := hL.seth (w := zob 12 [.int 0, .int 23, .int 0, .int 0, .int 0, .int 0, .null, .null, .null, .null, .null, .null])
  have hMo := zu_s (G := G) (a := h) (v := zob 12 [.int 0, .int 23, .int 0, .int 0, .int 0, .int 0, .null, .null, .null, .null, .null, .null])
  refine z_aload_n 0 d_Mo_init_10 rfl rfl ?_
  refine z_new (fs := [.int 0, .null, .int 0]) zc_AL qK_Mo_13 qO_AL qN_AL (by decide) ⟨by decide, by decide⟩ d_Mo_init_11 (fun a1 hn_a1 hb_a1 => ?_)
  refine z_dup d_Mo_init_14 rfl ?_
  refine z_callIp0 (m_AL_init hs0 hst zu_s) ym_AL_init rfl qM_Mo_15 qI_AL_init d_Mo_init_15 rfl (Nat.le_of_ble_eq_true rfl) ⟨by decide, by decide⟩ ⟨Nat.le_of_ble_eq_true rfl, Nat.le_of_ble_eq_true rfl⟩ (fun r_15 G_15 hp_15 => ?_)
  obtain ⟨hr_15, hg_15⟩ := hp_15
  obtain rfl : r_15 = none := hr_15
  rw [zu_zu] at hg_15
  have hL := hg_15 ▸ hL.push (w := zob 2 [.int 0, .ref d.2.2, .int 0]) hMo hn_a1
  have hMo : G_15 h = some (zob 12 [.int 0, .int 23, .int 0, .int 0, .int 0, .int 0, .null, .null, .null, .null, .null, .null]) := by rw [hg_15]; exact (zu_n (ne_of_none hMo hn_a1)).trans hMo
  refine z_putF zc_Mo 6 (by decide) qF_Mo_16 hMo rfl rfl rfl rfl rfl (Nat.le_of_ble_eq_true rfl) d_Mo_init_18 ?_
  have hL := hL.seth (w := zob 12 [.int 0, .int 23, .int 0, .int 0, .int 0, .int 0, .ref a1, .null, .null, .null, .null, .null])
  have hMo : zu G_15 h (zob 12 [.int 0, .int 23, .int 0, .int 0, .int 0, .int 0, .ref a1, .null, .null, .null, .null, .null]) h = some (zob 12 [.int 0, .int 23, .int 0, .int 0, .int 0, .int 0, .ref a1, .null, .null, .null, .null, .null]) := zu_s
  refine z_aload_n 0 d_Mo_init_21 rfl rfl ?_
  refine z_new (fs := [.int 0, .null, .int 0]) zc_AL qK_Mo_13 qO_AL qN_AL (by decide) ⟨by decide, by decide⟩ d_Mo_init_22 (fun a3 hn_a3 hb_a3 => ?_)
  refine z_dup d_Mo_init_25 rfl ?_
  refine z_callIp0 (m_AL_init hs0 hst zu_s) ym_AL_init rfl qM_Mo_15 qI_AL_init d_Mo_init_26 rfl (Nat.le_of_ble_eq_true rfl) ⟨by decide, by decide⟩ ⟨Nat.le_of_ble_eq_true rfl, Nat.le_of_ble_eq_true rfl⟩ (fun r_26 G_26 hp_26 => ?_)
  obtain ⟨hr_26, hg_26⟩ := hp_26
  obtain rfl : r_26 = none := hr_26
  rw [zu_zu] at hg_26
  have hL := hg_26 ▸ hL.push (w := zob 2 [.int 0, .ref d.2.2, .int 0]) hMo hn_a3
  have hMo : G_26 h = some (zob 12 [.int 0, .int 23, .int 0, .int 0, .int 0, .int 0, .ref a1, .null, .null, .null, .null, .null]) := by rw [hg_26]; exact (zu_n (ne_of_none hMo hn_a3)).trans hMo
  refine z_putF zc_Mo 7 (by decide) qF_Mo_20 hMo rfl rfl rfl rfl rfl (Nat.le_of_ble_eq_true rfl) d_Mo_init_29 ?_
  have hL := hL.seth (w := zob 12 [.int 0, .int 23, .int 0, .int 0, .int 0, .int 0, .ref a1, .ref a3, .null, .null, .null, .null])
  have hMo : zu G_26 h (zob 12 [.int 0, .int 23, .int 0, .int 0, .int 0, .int 0, .ref a1, .ref a3, .null, .null, .null, .null]) h = some (zob 12 [.int 0, .int 23, .int 0, .int 0, .int 0, .int 0, .ref a1, .ref a3, .null, .null, .null, .null]) := zu_s
  refine z_aload_n 0 d_Mo_init_32 rfl rfl ?_
  refine z_new (fs := [.int 0, .null, .int 0]) zc_AL qK_Mo_13 qO_AL qN_AL (by decide) ⟨by decide, by decide⟩ d_Mo_init_33 (fun a5 hn_a5 hb_a5 => ?_)
  refine z_dup d_Mo_init_36 rfl ?_
  refine z_callIp0 (m_AL_init hs0 hst zu_s) ym_AL_init rfl qM_Mo_15 qI_AL_init d_Mo_init_37 rfl (Nat.le_of_ble_eq_true rfl) ⟨by decide, by decide⟩ ⟨Nat.le_of_ble_eq_true rfl, Nat.le_of_ble_eq_true rfl⟩ (fun r_37 G_37 hp_37 => ?_)
  obtain ⟨hr_37, hg_37⟩ := hp_37
  obtain rfl : r_37 = none := hr_37
  rw [zu_zu] at hg_37
  have hL := hg_37 ▸ hL.push (w := zob 2 [.int 0, .ref d.2.2, .int 0]) hMo hn_a5
  have hMo : G_37 h = some (zob 12 [.int 0, .int 23, .int 0, .int 0, .int 0, .int 0, .ref a1, .ref a3, .null, .null, .null, .null]) := by rw [hg_37]; exact (zu_n (ne_of_none hMo hn_a5)).trans hMo
  refine z_putF zc_Mo 8 (by decide) qF_Mo_23 hMo rfl rfl rfl rfl rfl (Nat.le_of_ble_eq_true rfl) d_Mo_init_40 ?_
  have hL := hL.seth (w := zob 12 [.int 0, .int 23, .int 0, .int 0, .int 0, .int 0, .ref a1, .ref a3, .ref a5, .null, .null, .null])
  have hMo : zu G_37 h (zob 12 [.int 0, .int 23, .int 0, .int 0, .int 0, .int 0, .ref a1, .ref a3, .ref a5, .null, .null, .null]) h = some (zob 12 [.int 0, .int 23, .int 0, .int 0, .int 0, .int 0, .ref a1, .ref a3, .ref a5, .null, .null, .null]) := zu_s
  refine z_aload_n 0 d_Mo_init_43 rfl rfl ?_
  refine z_bipush (v := 97) d_Mo_init_44 (by decide) ?_
  refine z_newaI 97 qA_int (by decide) rfl (by decide) ⟨by decide, by decide⟩ d_Mo_init_46 (fun iv hn_iv hb_iv => ?_)
  have hL := hL.push (w := zI d 97 (fun _ => 0)) hMo hn_iv
  have hMo := (zu_n (v := zI d 97 (fun _ => 0)) (ne_of_none hMo hn_iv)).trans hMo
  refine z_putF zc_Mo 9 (by decide) qF_Mo_26 hMo rfl rfl rfl rfl rfl (Nat.le_of_ble_eq_true rfl) d_Mo_init_48 ?_
  have hL := hL.seth (w := zob 12 [.int 0, .int 23, .int 0, .int 0, .int 0, .int 0, .ref a1, .ref a3, .ref a5, .ref iv, .null, .null])
  have hMo : (zu (zu (zu G_37 h (zob 12 [.int 0, .int 23, .int 0, .int 0, .int 0, .int 0, .ref a1, .ref a3, .ref a5, .null, .null, .null])) iv (zI d 97 (fun _ => 0))) h (zob 12 [.int 0, .int 23, .int 0, .int 0, .int 0, .int 0, .ref a1, .ref a3, .ref a5, .ref iv, .null, .null])) h = some (zob 12 [.int 0, .int 23, .int 0, .int 0, .int 0, .int 0, .ref a1, .ref a3, .ref a5, .ref iv, .null, .null]) := zu_s
  refine z_aload_n 0 d_Mo_init_51 rfl rfl ?_
  refine z_bipush (v := 8) d_Mo_init_52 (by decide) ?_
  refine z_newaI 8 qA_int (by decide) rfl (by decide) ⟨by decide, by decide⟩ d_Mo_init_54 (fun pt hn_pt hb_pt => ?_)
  have hL := hL.push (w := zI d 8 (fun _ => 0)) hMo hn_pt
  have hMo := (zu_n (v := zI d 8 (fun _ => 0)) (ne_of_none hMo hn_pt)).trans hMo
  refine z_putF zc_Mo 10 (by decide) qF_Mo_30 hMo rfl rfl rfl rfl rfl (Nat.le_of_ble_eq_true rfl) d_Mo_init_56 ?_
  have hL := hL.seth (w := zob 12 [.int 0, .int 23, .int 0, .int 0, .int 0, .int 0, .ref a1, .ref a3, .ref a5, .ref iv, .ref pt, .null])
  have hMo : (zu (zu (zu (zu (zu G_37 h (zob 12 [.int 0, .int 23, .int 0, .int 0, .int 0, .int 0, .ref a1, .ref a3, .ref a5, .null, .null, .null])) iv (zI d 97 (fun _ => 0))) h (zob 12 [.int 0, .int 23, .int 0, .int 0, .int 0, .int 0, .ref a1, .ref a3, .ref a5, .ref iv, .null, .null])) pt (zI d 8 (fun _ => 0))) h (zob 12 [.int 0, .int 23, .int 0, .int 0, .int 0, .int 0, .ref a1, .ref a3, .ref a5, .ref iv, .ref pt, .null])) h = some (zob 12 [.int 0, .int 23, .int 0, .int 0, .int 0, .int 0, .ref a1, .ref a3, .ref a5, .ref iv, .ref pt, .null]) := zu_s
  refine z_aload_n 0 d_Mo_init_59 rfl rfl ?_
  refine z_bipush (v := 8) d_Mo_init_60 (by decide) ?_
  refine z_newaI 8 qA_int (by decide) rfl (by decide) ⟨by decide, by decide⟩ d_Mo_init_62 (fun nb hn_nb hb_nb => ?_)
  have hL := hL.push (w := zI d 8 (fun _ => 0)) hMo hn_nb
  have hMo := (zu_n (v := zI d 8 (fun _ => 0)) (ne_of_none hMo hn_nb)).trans hMo
  refine z_putF zc_Mo 11 (by decide) qF_Mo_33 hMo rfl rfl rfl rfl rfl (Nat.le_of_ble_eq_true rfl) d_Mo_init_64 ?_
  have hL := hL.seth (w := zob 12 [.int 0, .int 23, .int 0, .int 0, .int 0, .int 0, .ref a1, .ref a3, .ref a5, .ref iv, .ref pt, .ref nb])
  have hMo : (zu (zu (zu (zu (zu (zu (zu G_37 h (zob 12 [.int 0, .int 23, .int 0, .int 0, .int 0, .int 0, .ref a1, .ref a3, .ref a5, .null, .null, .null])) iv (zI d 97 (fun _ => 0))) h (zob 12 [.int 0, .int 23, .int 0, .int 0, .int 0, .int 0, .ref a1, .ref a3, .ref a5, .ref iv, .null, .null])) pt (zI d 8 (fun _ => 0))) h (zob 12 [.int 0, .int 23, .int 0, .int 0, .int 0, .int 0, .ref a1, .ref a3, .ref a5, .ref iv, .ref pt, .null])) nb (zI d 8 (fun _ => 0))) h (zob 12 [.int 0, .int 23, .int 0, .int 0, .int 0, .int 0, .ref a1, .ref a3, .ref a5, .ref iv, .ref pt, .ref nb])) h = some (zob 12 [.int 0, .int 23, .int 0, .int 0, .int 0, .int 0, .ref a1, .ref a3, .ref a5, .ref iv, .ref pt, .ref nb]) := zu_s
  have hLf : zLs h G ([(a1, zob 2 [.int 0, .ref d.2.2, .int 0]), (a3, zob 2 [.int 0, .ref d.2.2, .int 0]), (a5, zob 2 [.int 0, .ref d.2.2, .int 0]), (iv, zI d 97 (fun _ => 0)), (pt, zI d 8 (fun _ => 0)), (nb, zI d 8 (fun _ => 0))]) (zu (zu (zu (zu (zu (zu (zu G_37 h (zob 12 [.int 0, .int 23, .int 0, .int 0, .int 0, .int 0, .ref a1, .ref a3, .ref a5, .null, .null, .null])) iv (zI d 97 (fun _ => 0))) h (zob 12 [.int 0, .int 23, .int 0, .int 0, .int 0, .int 0, .ref a1, .ref a3, .ref a5, .ref iv, .null, .null])) pt (zI d 8 (fun _ => 0))) h (zob 12 [.int 0, .int 23, .int 0, .int 0, .int 0, .int 0, .ref a1, .ref a3, .ref a5, .ref iv, .ref pt, .null])) nb (zI d 8 (fun _ => 0))) h (zob 12 [.int 0, .int 23, .int 0, .int 0, .int 0, .int 0, .ref a1, .ref a3, .ref a5, .ref iv, .ref pt, .ref nb])) := hL
  have hM0 : zM d (fun q => zad h ([(a1, zob 2 [.int 0, .ref d.2.2, .int 0]), (a3, zob 2 [.int 0, .ref d.2.2, .int 0]), (a5, zob 2 [.int 0, .ref d.2.2, .int 0]), (iv, zI d 97 (fun _ => 0)), (pt, zI d 8 (fun _ => 0)), (nb, zI d 8 (fun _ => 0))]) (mix q)) mV0 0 0 0 10 (zu (zu (zu (zu (zu (zu (zu G_37 h (zob 12 [.int 0, .int 23, .int 0, .int 0, .int 0, .int 0, .ref a1, .ref a3, .ref a5, .null, .null, .null])) iv (zI d 97 (fun _ => 0))) h (zob 12 [.int 0, .int 23, .int 0, .int 0, .int 0, .int 0, .ref a1, .ref a3, .ref a5, .ref iv, .null, .null])) pt (zI d 8 (fun _ => 0))) h (zob 12 [.int 0, .int 23, .int 0, .int 0, .int 0, .int 0, .ref a1, .ref a3, .ref a5, .ref iv, .ref pt, .null])) nb (zI d 8 (fun _ => 0))) h (zob 12 [.int 0, .int 23, .int 0, .int 0, .int 0, .int 0, .ref a1, .ref a3, .ref a5, .ref iv, .ref pt, .ref nb])) := zM.init hLf rfl (fun r h1 h2 h4 h6 => by
    match r, h1, h2, h4, h6 with
    | 0, _, _, _, _ => exact hMo
    | 1, _, _, _, _ => exact (hLf.at (i := 0) rfl).1
    | 3, _, _, _, _ => exact (hLf.at (i := 1) rfl).1
    | 5, _, _, _, _ => exact (hLf.at (i := 2) rfl).1
    | 7, _, _, _, _ => exact (hLf.at (i := 3) rfl).1
    | 8, _, _, _, _ => exact (hLf.at (i := 4) rfl).1
    | 9, _, _, _, _ => exact (hLf.at (i := 5) rfl).1
    | r + 10, h1, _, _, _ => exact absurd h1 (by omega))
  have hF0 := hLf.2.2
  have hB0 : ∀ r, mlive 0 0 0 r → (fun q => zad h ([(a1, zob 2 [.int 0, .ref d.2.2, .int 0]), (a3, zob 2 [.int 0, .ref d.2.2, .int 0]), (a5, zob 2 [.int 0, .ref d.2.2, .int 0]), (iv, zI d 97 (fun _ => 0)), (pt, zI d 8 (fun _ => 0)), (nb, zI d 8 (fun _ => 0))]) (mix q)) r = h ∨ G ((fun q => zad h ([(a1, zob 2 [.int 0, .ref d.2.2, .int 0]), (a3, zob 2 [.int 0, .ref d.2.2, .int 0]), (a5, zob 2 [.int 0, .ref d.2.2, .int 0]), (iv, zI d 97 (fun _ => 0)), (pt, zI d 8 (fun _ => 0)), (nb, zI d 8 (fun _ => 0))]) (mix q)) r) = none := fun r hr => by
    have hr2 : r < 10 ∧ r ≠ 2 ∧ r ≠ 4 ∧ r ≠ 6 := by unfold mlive at hr; omega
    by_cases e : r = 0
    · subst e; exact Or.inl rfl
    · have h1 := mix_0 r hr2.1 e
      have h7 := mix_lt r hr2.1
      have := (hLf.at (i := mix r - 1) (List.getElem?_eq_getElem (show mix r - 1 < 6 by omega))).2
      rw [show mix r - 1 + 1 = mix r by omega] at this
      exact Or.inr this
  have hb0 : (fun q => zad h ([(a1, zob 2 [.int 0, .ref d.2.2, .int 0]), (a3, zob 2 [.int 0, .ref d.2.2, .int 0]), (a5, zob 2 [.int 0, .ref d.2.2, .int 0]), (iv, zI d 97 (fun _ => 0)), (pt, zI d 8 (fun _ => 0)), (nb, zI d 8 (fun _ => 0))]) (mix q)) 0 = h := rfl
  obtain ⟨B, eB⟩ : ∃ b : Nat → Nat, b = (fun q => zad h ([(a1, zob 2 [.int 0, .ref d.2.2, .int 0]), (a3, zob 2 [.int 0, .ref d.2.2, .int 0]), (a5, zob 2 [.int 0, .ref d.2.2, .int 0]), (iv, zI d 97 (fun _ => 0)), (pt, zI d 8 (fun _ => 0)), (nb, zI d 8 (fun _ => 0))]) (mix q)) := ⟨_, rfl⟩
  rw [← eB] at hM0 hB0 hb0
  clear eB
  obtain ⟨Gf, eG⟩ : ∃ g, g = (zu (zu (zu (zu (zu (zu (zu G_37 h (zob 12 [.int 0, .int 23, .int 0, .int 0, .int 0, .int 0, .ref a1, .ref a3, .ref a5, .null, .null, .null])) iv (zI d 97 (fun _ => 0))) h (zob 12 [.int 0, .int 23, .int 0, .int 0, .int 0, .int 0, .ref a1, .ref a3, .ref a5, .ref iv, .null, .null])) pt (zI d 8 (fun _ => 0))) h (zob 12 [.int 0, .int 23, .int 0, .int 0, .int 0, .int 0, .ref a1, .ref a3, .ref a5, .ref iv, .ref pt, .null])) nb (zI d 8 (fun _ => 0))) h (zob 12 [.int 0, .int 23, .int 0, .int 0, .int 0, .int 0, .ref a1, .ref a3, .ref a5, .ref iv, .ref pt, .ref nb])) := ⟨_, rfl⟩
  rw [← eG] at hM0 hF0
  refine z_geq eG.symm ?_
  subst hb0
  refine z_iconst (v := (nI 1)) d_Mo_init_67 (by decide) ?_
  refine z_istore_n (L' := [(1, _), (0, _)]) d_Mo_init_68 rfl (by decide) rfl ?_
  have key_69 : ∀ (n : Nat) (k : Nat) (G2 : zG) (V2 : Nat → Nat → Int32), 97 - k < n → (k ≤ 97) → (zM d B V2 0 0 0 10 G2) → (zKp (fun r => r = 7) mV0 V2) → (mFr B 0 0 0 Gf G2) → (1 ≤ k) → (mIv (V2 7) k 1) → Z g0 d y_Mo_init c_Mo_init 3 ((Option.none : Option Jvm.ClassFile.FieldType)) [] p l e (zR 4 6 122) s m args below meth c (vx_MQ below (zQc g0 d (fun r G1 => r = none ∧ ∃ B9 V9, B9 0 = B 0 ∧ zM d B9 V9 0 0 0 10 G1 ∧ (∀ r, r ≠ 7 → V9 r = mV0 r) ∧ zIv (V9 7) zinv ∧ (∀ r, mlive 0 0 0 r → B9 r = B 0 ∨ G (B9 r) = none) ∧ ∀ q v, G q = some v → q ≠ B 0 → G1 q = some v)) (zXc g0 d (zNo)) args s 6 122 (zA g0)) 6 122 (G2) [(1, .int (nI k)), (0, .ref (B 0))] [] 69 := by
    intro n
    induction n with
    | zero => intro k G2 V2 h0; exact absurd h0 (Nat.not_lt_zero _)
    | succ n ih_69 =>
      intro k G2 V2 hm_69 hk hM2 hK2 hF2 hk1 hI2
      refine z_iload_n 0 d_Mo_init_69 rfl rfl ?_
      refine z_bipush (v := (nI 97)) d_Mo_init_70 (by decide) ?_
      refine z_icmp_ge 112 d_Mo_init_72 (by decide) (fun c_72 => ?_) (fun c_72 => ?_)
      · skip
        obtain rfl : k = 97 := by
          have := (nI_leI (a := 97) (b := k) (by decide) (by omega)).mp c_72
          omega
        exact z_vret rfl (⟨rfl, B, V2, rfl, hM2, fun r hr => hK2 r hr, hI2.fin, hB0, fun q v hq hn => hF2 q v (hF0 q v hq hn) (fun r hr e => by
              rcases hB0 r hr with e2 | e2
              · exact hn (e.trans e2)
              · rw [← e, hq] at e2; cases e2)⟩) (by first | decide | omega) (by first | decide | omega) d_Mo_init_112
      · skip
        have hk6 : k < 97 := Nat.lt_of_not_le fun q => c_72 (nI_le (a := 97) (b := k) q (by omega))
        refine z_iconst (v := (nI 1)) d_Mo_init_75 (by decide) ?_
        refine z_istore_n (L' := [(2, _), (1, _), (0, _)]) d_Mo_init_76 rfl (by decide) rfl ?_
        have key_77 : ∀ (n : Nat) (j : Nat) (G2 : zG) (V2 : Nat → Nat → Int32), 97 - j < n → (j ≤ 97) → (zM d B V2 0 0 0 10 G2) → (zKp (fun r => r = 7) mV0 V2) → (mFr B 0 0 0 Gf G2) → (mIv (V2 7) k j) → Z g0 d y_Mo_init c_Mo_init 3 ((Option.none : Option Jvm.ClassFile.FieldType)) [] p l e (zR 4 6 122) s m args below meth c (vx_MQ below (zQc g0 d (fun r G1 => r = none ∧ ∃ B9 V9, B9 0 = B 0 ∧ zM d B9 V9 0 0 0 10 G1 ∧ (∀ r, r ≠ 7 → V9 r = mV0 r) ∧ zIv (V9 7) zinv ∧ (∀ r, mlive 0 0 0 r → B9 r = B 0 ∨ G (B9 r) = none) ∧ ∀ q v, G q = some v → q ≠ B 0 → G1 q = some v)) (zXc g0 d (zNo)) args s 6 122 (zA g0)) 6 122 (G2) [(2, .int (nI j)), (1, .int (nI k)), (0, .ref (B 0))] [] 77 := by
          intro n
          induction n with
          | zero => intro j G2 V2 h0; exact absurd h0 (Nat.not_lt_zero _)
          | succ n ih_77 =>
            intro j G2 V2 hm_77 hj hM2 hK2 hF2 hI2
            refine z_iload_n 0 d_Mo_init_77 rfl rfl ?_
            refine z_bipush (v := (nI 97)) d_Mo_init_78 (by decide) ?_
            refine z_icmp_ge 106 d_Mo_init_80 (by decide) (fun c_80 => ?_) (fun c_80 => ?_)
            · skip
              obtain rfl : j = 97 := by
                have := (nI_leI (a := 97) (b := j) (by decide) (by omega)).mp c_80
                omega
              refine z_iinc (v := nI (k + 1)) (L' := [(1, _), (2, _), (0, _)]) 1 d_Mo_init_106 rfl (nI_1 k) (by decide) rfl ?_
              refine z_goto 69 d_Mo_init_109 (by decide) ?_
              refine z_sub (L' := [(1, _), (0, _)]) [0, 2] rfl ?_
              exact ih_69 (k + 1) _ _ (by omega) (by omega) hM2 hK2 hF2 (by omega) hI2.n
            · skip
              have hj6 : j < 97 := Nat.lt_of_not_le fun q => c_80 (nI_le (a := 97) (b := j) q (by omega))
              refine z_iload_n 1 d_Mo_init_83 rfl rfl ?_
              refine z_iload_n 0 d_Mo_init_84 rfl rfl ?_
              refine z_imul d_Mo_init_85 ?_
              refine z_bipush (v := 97) d_Mo_init_86 (by decide) ?_
              refine z_irem d_Mo_init_88 (by decide) ?_
              refine z_iconst (v := 1) d_Mo_init_89 (by decide) ?_
              refine z_icmp_ne 100 d_Mo_init_90 (by decide) (fun c_90 => ?_) (fun c_90 => ?_)
              · skip
                have hc8 : ¬ k * j % 97 = 1 := fun q => c_90 ((c97 hk6 hj6).mpr q)
                refine z_iinc (v := nI (j + 1)) (L' := [(2, _), (1, _), (0, _)]) 0 d_Mo_init_100 rfl (nI_1 j) (by decide) rfl ?_
                refine z_goto 77 d_Mo_init_103 (by decide) ?_
                first
                  | (have hq := hM3
                     exact ih_77 (j + 1) _ _ (by omega) (by omega) hM3 hK3 hF3 (by rw [rset_s]; exact hI2.set hk6 hj6 hc9))
                  | exact ih_77 (j + 1) _ _ (by omega) (by omega) hM2 hK2 hF2 (hI2.skip hk6 hj6 hc8)
              · skip
                have hc9 : k * j % 97 = 1 := (c97 hk6 hj6).mp (by first | exact c_90 | exact Decidable.not_not.mp c_90)
                refine z_aload_n 2 d_Mo_init_93 rfl rfl ?_
                refine z_get zc_Mo 9 (by decide) qF_Mo_26 hM2.mo rfl d_Mo_init_94 ?_
                refine z_iload_n 1 d_Mo_init_97 rfl rfl ?_
                refine z_iload_n 0 d_Mo_init_98 rfl rfl ?_
                refine z_iastN hM2.iv (show k < 97 by omega) (by decide) d_Mo_init_99 ?_
                have hM3 := hM2.put (ml_s 7) (upd (V2 7) k (nI j)) rfl rfl (hM2.2.off (Or.inl (by decide)))
                have hK3 := hK2.tr (zKp.set (P := fun r => r = 7) (V := V2) (r := 7) (v := upd (V2 7) k (nI j)) rfl)
                have hF3 := hF2.tr (zM.frput (w := zI d 97 (upd (V2 7) k (nI j))) (ml_s 7) rfl)
                refine z_iinc (v := nI (j + 1)) (L' := [(2, _), (1, _), (0, _)]) 0 d_Mo_init_100 rfl (nI_1 j) (by decide) rfl ?_
                refine z_goto 77 d_Mo_init_103 (by decide) ?_
                first
                  | (have hq := hM3
                     exact ih_77 (j + 1) _ _ (by omega) (by omega) hM3 hK3 hF3 (by rw [rset_s]; exact hI2.set hk6 hj6 hc9))
                  | exact ih_77 (j + 1) _ _ (by omega) (by omega) hM2 hK2 hF2 (hI2.skip hk6 hj6 hc8)
        exact key_77 98 1 _ _ (by omega) (by omega) hM2 hK2 hF2 hI2
  exact key_69 98 1 _ _ (by omega) (by omega) hM0 zKp.rf zFr.rf (by decide) mIv.z
