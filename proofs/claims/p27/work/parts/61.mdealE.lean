
theorem zW.grow2 {A A' : Nat → Nat} {live live' : Nat → Prop} {cell cell' : Nat → (Nat → Int32) → va_E} {V V' : Nat → Nat → Int32} {G G1 : zG} (New : Nat → Prop) (h : zW A live cell V G) (hN : ∀ r, live' r → (live r ∧ A' r = A r) ∨ New r) (hF : ∀ r, New r → ∀ q, live q → A q ≠ A' r) (hI : ∀ r q, New r → New q → A' r = A' q → r = q) (hC : ∀ r, live' r → G1 (A' r) = some (cell' r (V' r))) : zW A' live' cell' V' G1 := by
  refine ⟨fun r q hr hq e => ?_, hC⟩
  rcases hN r hr with ⟨l1, e1⟩ | n1 <;> rcases hN q hq with ⟨l2, e2⟩ | n2
  · exact h.1 r q l1 l2 (e1.symm.trans (e.trans e2))
  · exact absurd (e1.symm.trans e) (hF q n2 r l1)
  · exact absurd (e2.symm.trans e.symm) (hF r n1 q l2)
  · exact hI r q n1 n2 e
def zBi (B : Nat → Nat) (ns a hs he b : Nat) : Nat → Nat := fun r => if r = 200 + ns then a else if r = 300 + ns then hs else if r = 400 + ns then he else if r = 4 then b else B r
section ZMS
variable {d : zD} {B : Nat → Nat} {V : Nat → Nat → Int32} {nk ns ne ec : Nat} {G G1 : zG}
theorem zMs.fr {h hs he : Nat} {t z dt epo fr bl : Int32} {sh ep : Nat → Int32} (hS : zMs d h hs he t z dt epo fr bl sh ep G) (hF : mFr B nk ns ne G G1) (ho : ∀ r, mlive nk ns ne r → B r ≠ h ∧ B r ≠ hs ∧ B r ≠ he) : zMs d h hs he t z dt epo fr bl sh ep G1 :=
  ⟨hF _ _ hS.1 (fun r hr => (ho r hr).1.symm), hF _ _ hS.2.1 (fun r hr => (ho r hr).2.1.symm), hF _ _ hS.2.2.1 (fun r hr => (ho r hr).2.2.symm), hS.2.2.2⟩
theorem zMs.ush {h hs he : Nat} {t z dt epo fr bl : Int32} {sh ep : Nat → Int32} (hS : zMs d h hs he t z dt epo fr bl sh ep G) (v : Nat → Int32) : zMs d h hs he t z dt epo fr bl v ep (zu G hs (zI d 8 v)) :=
  ⟨(zu_n (zOI hS.1 hS.2.1)).trans hS.1, zu_s, (zu_n (Ne.symm hS.2.2.2)).trans hS.2.2.1, hS.2.2.2⟩
theorem zMs.uep {h hs he : Nat} {t z dt epo fr bl : Int32} {sh ep : Nat → Int32} (hS : zMs d h hs he t z dt epo fr bl sh ep G) (v : Nat → Int32) : zMs d h hs he t z dt epo fr bl sh v (zu G he (zI d 8 v)) :=
  ⟨(zu_n (zOI hS.1 hS.2.2.1)).trans hS.1, (zu_n hS.2.2.2).trans hS.2.1, zu_s, hS.2.2.2⟩
theorem zMs.ubs {h hs he a : Nat} {t z dt epo fr bl : Int32} {sh ep : Nat → Int32} {w : va_E} (hS : zMs d h hs he t z dt epo fr bl sh ep G) (ha : a ≠ h ∧ a ≠ hs ∧ a ≠ he) : zMs d h hs he t z dt epo fr bl sh ep (zu G a w) :=
  ⟨(zu_n ha.1.symm).trans hS.1, (zu_n ha.2.1.symm).trans hS.2.1, (zu_n ha.2.2.symm).trans hS.2.2.1, hS.2.2.2⟩
def zs6n (a b c e f g : Int32) : Nat → Int32 | 0 => a | 1 => b | 2 => c | 3 => e | 4 => f | _ => g
set_option maxHeartbeats 4000000 in
/-- a secret more -/
theorem zM.newi (h : zM d B V nk ns ne ec G) (hk : ns < 6) {a hs he b : Nat} {w u1 u2 : Nat → Int32} (hw : ∃ t, 1 ≤ t ∧ t ≤ 4 ∧ w 0 = nI t) (hw5 : ∃ b, w 5 = zb b) (hu : ∀ j, nk ≤ j → j < 8 → u1 j = -1) (mc : Int32) (hS : zMs d a hs he (w 0) (w 1) (w 2) (w 3) (w 4) (w 5) u1 u2 G) (ho : ∀ r, mlive nk ns ne r → B r ≠ a ∧ B r ≠ hs ∧ B r ≠ he) (hd : (b = B 4 ∧ 0 < ns) ∨ G b = none) {f' : Nat → Option Nat} (hf : f' = fun j => if j < ns + 1 then some (zBi B ns a hs he b (200 + j)) else none) :
    zM d (zBi B ns a hs he b) (rset (rset (rset (rset V (200 + ns) w) (300 + ns) u1) (400 + ns) u2) 3 (fun _ => mc)) nk (ns + 1) ne ec (zu (zu G b (zO d 10 f')) (B 3) (zob 2 [.int mc, .ref b, .int (nI (ns + 1))])) ∧ mFr B nk ns ne G (zu (zu G b (zO d 10 f')) (B 3) (zob 2 [.int mc, .ref b, .int (nI (ns + 1))])) := by
  have hnk : nk ≤ 8 := h.2.1
  have hne : ne ≤ 64 := h.2.2.2.1
  obtain ⟨s1, s2, s3, s4⟩ := hS
  have a1 : a ≠ hs := zOI s1 s2
  have a2 : a ≠ he := zOI s1 s3
  have e200 : zBi B ns a hs he b (200 + ns) = a := if_pos rfl
  have e300 : zBi B ns a hs he b (300 + ns) = hs := (if_neg (by omega)).trans (if_pos rfl)
  have e400 : zBi B ns a hs he b (400 + ns) = he := (if_neg (by omega)).trans ((if_neg (by omega)).trans (if_pos rfl))
  have e4 : zBi B ns a hs he b 4 = b := (if_neg (by omega)).trans ((if_neg (by omega)).trans ((if_neg (by omega)).trans (if_pos rfl)))
  have eo : ∀ q, q ≠ 4 → q ≠ 200 + ns → q ≠ 300 + ns → q ≠ 400 + ns → zBi B ns a hs he b q = B q := fun q q1 q2 q3 q4 => (if_neg q2).trans ((if_neg q3).trans ((if_neg q4).trans (if_neg q1)))
  have hold : ∀ r, mlive nk (ns + 1) ne r → r ≠ 4 → r ≠ 200 + ns → r ≠ 300 + ns → r ≠ 400 + ns → mlive nk ns ne r := fun r hr h1 h2 h3 h4 => by unfold mlive at *; omega
  have hbx : b ≠ a ∧ b ≠ hs ∧ b ≠ he := by
    rcases hd with ⟨rfl, h0⟩ | hb
    · exact ho 4 (ml_4 h0)
    · refine ⟨fun e => ?_, fun e => ?_, fun e => ?_⟩
      · rw [e, s1] at hb; cases hb
      · rw [e, s2] at hb; cases hb
      · rw [e, s3] at hb; cases hb
  obtain ⟨b1, b2, b3⟩ := hbx
  have hbr : ∀ r, mlive nk ns ne r → r ≠ 4 → B r ≠ b := fun r hr h2 e => by
    rcases hd with ⟨rfl, h0⟩ | hb
    · exact h2 (h.1.1 r 4 hr (ml_4 h0) e)
    · exact h.nn_ hb r hr e
  have h3b : B 3 ≠ b := hbr 3 (ml_s 3) (by decide)
  have h3 := ho 3 (ml_s 3)
  refine ⟨⟨h.1.grow2 (fun r => r = 200 + ns ∨ r = 300 + ns ∨ r = 400 + ns ∨ (r = 4 ∧ ∀ q, mlive nk ns ne q → B q ≠ b)) (fun r hr => ?_) (fun r hr q hq => ?_) (fun r q hr hq e => ?_) (fun r hr => ?_), ?_⟩, ?_⟩
  · by_cases r1 : r = 200 + ns
    · exact Or.inr (Or.inl r1)
    · by_cases r2 : r = 300 + ns
      · exact Or.inr (Or.inr (Or.inl r2))
      · by_cases r3 : r = 400 + ns
        · exact Or.inr (Or.inr (Or.inr (Or.inl r3)))
        · by_cases r4 : r = 4
          · rcases hd with ⟨hb, h0⟩ | hb
            · exact Or.inl (by rw [r4, e4]; exact ⟨ml_4 h0, hb⟩)
            · exact Or.inr (Or.inr (Or.inr (Or.inr ⟨r4, fun q hq => h.nn_ hb q hq⟩)))
          · exact Or.inl ⟨hold r hr r4 r1 r2 r3, eo r r4 r1 r2 r3⟩
  · rcases hr with rfl | rfl | rfl | ⟨rfl, hb⟩
    · rw [e200]; exact (ho q hq).1
    · rw [e300]; exact (ho q hq).2.1
    · rw [e400]; exact (ho q hq).2.2
    · rw [e4]; exact hb q hq
  · rcases hr with rfl | rfl | rfl | ⟨rfl, -⟩ <;> rcases hq with rfl | rfl | rfl | ⟨rfl, -⟩ <;> first | rfl | (simp only [e200, e300, e400, e4] at e)
    · exact absurd e a1
    · exact absurd e a2
    · exact absurd e.symm b1
    · exact absurd e.symm a1
    · exact absurd e s4
    · exact absurd e.symm b2
    · exact absurd e.symm a2
    · exact absurd e.symm s4
    · exact absurd e.symm b3
    · exact absurd e b1
    · exact absurd e b2
    · exact absurd e b3
  · by_cases r1 : r = 200 + ns
    · subst r1
      rw [e200, zu_n h3.1.symm, zu_n b1.symm, rset_n (by omega), rset_n (by omega), rset_n (by omega), rset_s, mcell_i hk, e300, e400]
      exact s1
    · by_cases r2 : r = 300 + ns
      · subst r2
        rw [e300, zu_n h3.2.1.symm, zu_n b2.symm, rset_n (by omega), rset_n (by omega), rset_s, mcell_a (by omega) (by omega)]
        exact s2
      · by_cases r3 : r = 400 + ns
        · subst r3
          rw [e400, zu_n h3.2.2.symm, zu_n b3.symm, rset_n (by omega), rset_s, mcell_a (by omega) (by omega)]
          exact s3
        · by_cases r4 : r = 4
          · subst r4
            rw [e4, zu_n h3b.symm, zu_s, hf]
            rfl
          · have l1 := hold r hr r4 r1 r2 r3
            rw [eo r r4 r1 r2 r3]
            by_cases r5 : r = 3
            · subst r5
              rw [zu_s, rset_s]
              show _ = some (zob 2 [.int mc, .ref (if ns + 1 = 0 then d.2.2 else zBi B ns a hs he b 4), .int (nI (ns + 1))])
              rw [if_neg (by omega), e4]
            · rw [zu_n (fun e => r5 (h.1.1 r 3 l1 (ml_s 3) e)), zu_n (hbr r l1 r4), rset_n r5, rset_n r3, rset_n r2, rset_n r1]
              refine (h.1.2 r l1).trans (congrArg some ?_)
              by_cases r6 : r = 1
              · subst r6
                show zob 2 [_, .ref (if nk = 0 then d.2.2 else B 2), _] = zob 2 [_, .ref (if nk = 0 then d.2.2 else zBi B ns a hs he b 2), _]
                rw [eo 2 (by decide) (by omega) (by omega) (by omega)]
              · by_cases r7 : r = 2
                · subst r7
                  show zO d 10 _ = zO d 10 (fun j => if j < nk then some (zBi B ns a hs he b (100 + j)) else Option.none)
                  have : (fun j => if j < nk then some (zBi B ns a hs he b (100 + j)) else Option.none) = (fun j => if j < nk then some (B (100 + j)) else Option.none) := funext fun j => by
                    by_cases hj : j < nk
                    · rw [if_pos hj, if_pos hj, eo (100 + j) (by omega) (by omega) (by omega) (by omega)]
                    · rw [if_neg hj, if_neg hj]
                  rw [this]
                · by_cases r8 : r = 5
                  · subst r8
                    show zob 2 [_, .ref (if ne = 0 then d.2.2 else B 6), _] = zob 2 [_, .ref (if ne = 0 then d.2.2 else zBi B ns a hs he b 6), _]
                    rw [eo 6 (by decide) (by omega) (by omega) (by omega)]
                  · by_cases r9 : r = 6
                    · subst r9
                      show zO d ec _ = zO d ec (fun j => if j < ne then some (zBi B ns a hs he b (500 + j)) else Option.none)
                      have : (fun j => if j < ne then some (zBi B ns a hs he b (500 + j)) else Option.none) = (fun j => if j < ne then some (B (500 + j)) else Option.none) := funext fun j => by rw [eo (500 + j) (by omega) (by omega) (by omega) (by omega)]
                      rw [this]
                    · exact (mcell_B r6 r7 r5 r4 r8 r9 (fun q q1 q2 q3 q4 q5 => eo q q4 (by omega) (by omega) (by omega)) (fun g1 g2 => by unfold mlive at l1; exact ⟨eo _ (by omega) (by omega) (by omega) (by omega), eo _ (by omega) (by omega) (by omega) (by omega)⟩)).symm
  · obtain ⟨i1, i2, i3, i4, i5, i6, i7, i8, i9⟩ := h.2
    have hn : ∀ q, q ≠ 3 → q ≠ 200 + ns → q ≠ 300 + ns → q ≠ 400 + ns → (rset (rset (rset (rset V (200 + ns) w) (300 + ns) u1) (400 + ns) u2) 3 (fun _ => mc)) q = V q := fun q q1 q2 q3 q4 => by rw [rset_n q1, rset_n q4, rset_n q3, rset_n q2]
    refine ⟨i1, by omega, i3, i4, i5, fun q hq => ?_, fun q hq j h1 h2 => ?_, fun q hq => ?_, fun q hq => by rw [hn _ (by omega) (by omega) (by omega) (by omega)]; exact i9 q hq⟩
    · by_cases ek : q = ns
      · subst ek; rw [rset_n (by omega), rset_n (by omega), rset_n (by omega), rset_s]; exact hw
      · rw [hn _ (by omega) (by omega) (by omega) (by omega)]; exact i6 q (by omega)
    · by_cases ek : q = ns
      · subst ek; rw [rset_n (by omega), rset_n (by omega), rset_s]; exact hu j h1 h2
      · rw [hn _ (by omega) (by omega) (by omega) (by omega)]; exact i7 q (by omega) j h1 h2
    · by_cases ek : q = ns
      · subst ek; rw [rset_n (by omega), rset_n (by omega), rset_n (by omega), rset_s]; exact hw5
      · rw [hn _ (by omega) (by omega) (by omega) (by omega)]; exact i8 q (by omega)
  · have f2 : mFr B nk ns ne G (zu G b (zO d 10 f')) := by
      rcases hd with ⟨rfl, h0⟩ | hb
      · exact zM.frput (ml_4 h0) rfl
      · exact mFr.nw zFr.rf hb
    exact f2.tr (zM.frput (ml_s 3) rfl)
theorem mNw.i {a hs he b : Nat} (ha : G a = none) (h1 : G hs = none) (h2 : G he = none) (hb : (b = B 4 ∧ 0 < ns) ∨ G b = none) (hnk : nk ≤ 8) (hns : ns < 6) : mNw B (zBi B ns a hs he b) nk ns ne nk (ns + 1) ne G := by
  have e200 : zBi B ns a hs he b (200 + ns) = a := if_pos rfl
  have e300 : zBi B ns a hs he b (300 + ns) = hs := (if_neg (by omega)).trans (if_pos rfl)
  have e400 : zBi B ns a hs he b (400 + ns) = he := (if_neg (by omega)).trans ((if_neg (by omega)).trans (if_pos rfl))
  have e4 : zBi B ns a hs he b 4 = b := (if_neg (by omega)).trans ((if_neg (by omega)).trans ((if_neg (by omega)).trans (if_pos rfl)))
  have eo : ∀ q, q ≠ 4 → q ≠ 200 + ns → q ≠ 300 + ns → q ≠ 400 + ns → zBi B ns a hs he b q = B q := fun q q1 q2 q3 q4 => (if_neg q2).trans ((if_neg q3).trans ((if_neg q4).trans (if_neg q1)))
  refine ⟨eo 0 (by decide) (by omega) (by omega) (by omega), fun r hr => ?_⟩
  by_cases r1 : r = 200 + ns
  · exact Or.inr (by rw [r1, e200]; exact ha)
  · by_cases r2 : r = 300 + ns
    · exact Or.inr (by rw [r2, e300]; exact h1)
    · by_cases r3 : r = 400 + ns
      · exact Or.inr (by rw [r3, e400]; exact h2)
      · by_cases r4 : r = 4
        · rcases hb with ⟨hb, h0⟩ | hb
          · exact Or.inl ⟨4, ml_4 h0, by rw [r4, e4]; exact hb⟩
          · exact Or.inr (by rw [r4, e4]; exact hb)
        · exact Or.inl ⟨r, by unfold mlive at *; omega, eo r r4 r1 r2 r3⟩
end ZMS


def mDl (V1 V' : Nat → Nat → Int32) (ns ne ne' tn : Nat) (x z dt set : Int32) : Prop := ∃ V2 fc u1 u2 mc, mLk V1 V2 (zlkn (nI tn) (V1 0 1) tn) ∧ (∀ j, j < tn → fc j = zcvn x (nI tn) (V1 0 1) j) ∧ zSh set (fun j => zcN fc (nI j + 1) tn tn) u1 u2 8 ∧ mEn (rset (rset (rset (rset V2 (200 + ns) (zs6n (nI tn) z dt 0 0 0)) (300 + ns) u1) (400 + ns) u2) 3 (fun _ => mc)) V' ne ne' 0 (nI ns)


/-- the place of a role in the order of the reference's constructor -/
def mix (r : Nat) : Nat := match r with | 0 => 0 | 1 => 1 | 3 => 2 | 5 => 3 | 7 => 4 | 8 => 5 | _ => 6
theorem mix_inj : ∀ r, r < 10 → ∀ q, q < 10 → (r ≠ 2 ∧ r ≠ 4 ∧ r ≠ 6 ∧ q ≠ 2 ∧ q ≠ 4 ∧ q ≠ 6 ∧ mix r = mix q) → r = q := by decide
theorem mix_lt : ∀ r, r < 10 → mix r < 7 := by decide
theorem mix_0 : ∀ r, r < 10 → r ≠ 0 → 1 ≤ mix r := by decide
def mV0 : Nat → Nat → Int32 := fun r => match r with | 0 => zm6 0 23 0 0 0 0 | _ => fun _ => 0
theorem zM.init {d : zD} {h : Nat} {G0 G : zG} {L : List (Nat × va_E)} (hL : zLs h G0 L G) (hl : L.length = 6) (h0 : ∀ r, r < 10 → r ≠ 2 → r ≠ 4 → r ≠ 6 → G (zad h L (mix r)) = some (mcell d (fun q => zad h L (mix q)) 10 0 0 0 r (mV0 r))) : zM d (fun q => zad h L (mix q)) mV0 0 0 0 10 G := by
  have hz : ∀ r, mlive 0 0 0 r → r < 10 ∧ r ≠ 2 ∧ r ≠ 4 ∧ r ≠ 6 := fun r hr => by unfold mlive at hr; omega
  refine ⟨⟨fun r q hr hq e => ?_, fun r hr => ?_⟩, by decide, by decide, by decide, Or.inl rfl, by decide, fun i hi => absurd hi (Nat.not_lt_zero _), fun i hi => absurd hi (Nat.not_lt_zero _), fun i hi => absurd hi (Nat.not_lt_zero _), fun i hi => absurd hi (Nat.not_lt_zero _)⟩
  · obtain ⟨a1, a2, a3, a4⟩ := hz r hr
    obtain ⟨b1, b2, b3, b4⟩ := hz q hq
    exact mix_inj r a1 q b1 ⟨a2, a3, a4, b2, b3, b4, hL.inj (by rw [hl]; exact mix_lt r a1) (by rw [hl]; exact mix_lt q b1) e⟩
  · obtain ⟨a1, a2, a3, a4⟩ := hz r hr
    exact h0 r a1 a2 a3 a4


/-- the inverse mod 97 -/
def zinv (k : Nat) : Nat := k ^ 95 % 97
theorem zinv_iff : ∀ k, k < 97 → ∀ n, n < 97 → (k * n % 97 = 1 ↔ 1 ≤ k ∧ n = zinv k) := by decide +kernel
theorem zinv_lt (k : Nat) : zinv k < 97 := Nat.mod_lt _ (by decide)
theorem zinv_v : zVv zinv := fun d h1 h2 => (zinv_iff d h2 (zinv d) (zinv_lt d)).mpr ⟨h1, rfl⟩
theorem zinv_p : ∀ k, k < 97 → 1 ≤ k → 1 ≤ zinv k := by decide +kernel
/-- the class's table -/
theorem zti_inv : ∀ j, j < 97 → zti 95 j = nI (zinv j) := by decide +kernel
/-- the reference's table while it is reckoned: of those below a, and of a where below b -/
def mIv (f : Nat → Int32) (a b : Nat) : Prop := ∀ k, k < 97 → f k = nI (if 1 ≤ k ∧ (k < a ∨ (k = a ∧ zinv k < b)) then zinv k else 0)
theorem mIv.z : mIv (fun _ => 0) 1 1 := fun k hk => by
  rw [if_neg (fun q => by
    have := zinv_p k hk q.1
    omega)]
  exact nI_0.symm
theorem mIv.n {f : Nat → Int32} {a : Nat} (h : mIv f a 97) : mIv f (a + 1) 1 := fun k hk => by
  rw [h k hk]
  have h1 := zinv_lt k
  by_cases c : 1 ≤ k
  · have h2 := zinv_p k hk c
    by_cases e : k < a + 1
    · rw [if_pos ⟨c, by omega⟩, if_pos ⟨c, Or.inl e⟩]
    · rw [if_neg (by omega), if_neg (by omega)]
  · rw [if_neg (fun q => c q.1), if_neg (fun q => c q.1)]
theorem mIv.skip {f : Nat → Int32} {a b : Nat} (h : mIv f a b) (ha : a < 97) (hb : b < 97) (hn : ¬ a * b % 97 = 1) : mIv f a (b + 1) := fun k hk => by
  rw [h k hk]
  by_cases c : 1 ≤ k ∧ (k < a ∨ (k = a ∧ zinv k < b))
  · rw [if_pos c, if_pos ⟨c.1, c.2.imp_right (fun q => ⟨q.1, by omega⟩)⟩]
  · rw [if_neg c, if_neg (fun q => c ⟨q.1, ?_⟩)]
    rcases q.2 with q2 | ⟨q2, q3⟩
    · exact Or.inl q2
    · refine Or.inr ⟨q2, ?_⟩
      have : zinv k ≠ b := fun e => hn ((zinv_iff a ha b hb).mpr ⟨by omega, by rw [← q2]; exact e.symm⟩)
      omega
theorem mIv.set {f : Nat → Int32} {a b : Nat} (h : mIv f a b) (ha : a < 97) (hb : b < 97) (hn : a * b % 97 = 1) : mIv (upd f a (nI b)) a (b + 1) := fun k hk => by
  obtain ⟨h1, e⟩ := (zinv_iff a ha b hb).mp hn
  by_cases c : k = a
  · subst c
    rw [pk_us, if_pos ⟨h1, Or.inr ⟨rfl, by omega⟩⟩, e]
  · rw [pk_un c, h k hk]
    by_cases c2 : 1 ≤ k ∧ (k < a ∨ (k = a ∧ zinv k < b))
    · rw [if_pos c2, if_pos ⟨c2.1, c2.2.imp_right (fun q => absurd q.1 c)⟩]
    · rw [if_neg c2, if_neg (fun q => c2 ⟨q.1, q.2.imp_right (fun z => absurd z.1 c)⟩)]
theorem mIv.fin {f : Nat → Int32} (h : mIv f 97 1) : zIv f zinv := fun k hk => by
  refine ⟨?_, zinv_lt k⟩
  rw [h k hk]
  by_cases c : 1 ≤ k
  · rw [if_pos ⟨c, Or.inl hk⟩]
  · obtain rfl : k = 0 := by omega
    rfl
theorem c97 {k j : Nat} (hk : k < 97) (hj : j < 97) : nI k * nI j - nI k * nI j / 97 * 97 = 1 ↔ k * j % 97 = 1 := by
  have hm : k * j ≤ 96 * 96 := Nat.mul_le_mul (by omega) (by omega)
  have e : nI k * nI j - nI k * nI j / 97 * 97 = nI (k * j % 97) := by
    rw [pk_mul, show (97 : Int32) = nI 97 from rfl]
    exact pk_rem (by omega) (by decide) (by decide)
  rw [e, show (1 : Int32) = nI 1 from rfl]
  exact nI_eq (by omega) (by decide)

