
/-! the reference's lists grow: a world that has grown -/
theorem zW.grow {A A' : Nat → Nat} {live live' : Nat → Prop} {cell cell' : Nat → (Nat → Int32) → va_E} {V V' : Nat → Nat → Int32} {G G1 : zG} (h : zW A live cell V G) (hN : ∀ r, live' r → (live r ∧ A' r = A r) ∨ G (A' r) = none) (hI : ∀ r q, live' r → live' q → G (A' r) = none → G (A' q) = none → A' r = A' q → r = q) (hC : ∀ r, live' r → G1 (A' r) = some (cell' r (V' r))) : zW A' live' cell' V' G1 := by
  refine ⟨fun r q hr hq e => ?_, hC⟩
  rcases hN r hr with ⟨l1, e1⟩ | n1 <;> rcases hN q hq with ⟨l2, e2⟩ | n2
  · exact h.1 r q l1 l2 (e1.symm.trans (e.trans e2))
  · have := h.2 r l1; rw [← e1, e, n2] at this; cases this
  · have := h.2 q l2; rw [← e2, ← e, n1] at this; cases this
  · exact hI r q hr hq n1 n2 e
def mNw (B B' : Nat → Nat) (nk ns ne nk' ns' ne' : Nat) (G : zG) : Prop := B' 0 = B 0 ∧ ∀ r, mlive nk' ns' ne' r → (∃ q, mlive nk ns ne q ∧ B' r = B q) ∨ G (B' r) = none
theorem mNw.rf {B : Nat → Nat} {nk ns ne : Nat} {G : zG} : mNw B B nk ns ne nk ns ne G := ⟨rfl, fun r hr => Or.inl ⟨r, hr, rfl⟩⟩
theorem mNw.fr {B B' : Nat → Nat} {nk ns ne nk' ns' ne' : Nat} {G G1 G2 : zG} (h : mNw B B' nk ns ne nk' ns' ne' G) (h1 : mFr B nk ns ne G G1) (h2 : mFr B' nk' ns' ne' G1 G2) : mFr B nk ns ne G G2 := fun q v hq hn => h2 q v (h1 q v hq hn) fun r hr e => by
  rcases h.2 r hr with ⟨p, hp, e2⟩ | e2
  · exact hn p hp (e.trans e2)
  · rw [← e, hq] at e2; cases e2
theorem mNw.tr {B B' B'' : Nat → Nat} {nk ns ne nk' ns' ne' nk'' ns'' ne'' : Nat} {G G1 : zG} (h : mNw B B' nk ns ne nk' ns' ne' G) (h2 : mNw B' B'' nk' ns' ne' nk'' ns'' ne'' G1) (hf : mFr B nk ns ne G G1) (hw : ∀ r, mlive nk ns ne r → G (B r) ≠ none) : mNw B B'' nk ns ne nk'' ns'' ne'' G := by
  refine ⟨h2.1.trans h.1, fun r hr => ?_⟩
  rcases h2.2 r hr with ⟨p, hp, e2⟩ | e2
  · rcases h.2 p hp with ⟨q, hq, e3⟩ | e3
    · exact Or.inl ⟨q, hq, e2.trans e3⟩
    · exact Or.inr (by rw [e2]; exact e3)
  · by_cases hl : ∃ q, mlive nk ns ne q ∧ B'' r = B q
    · exact Or.inl hl
    · refine Or.inr ?_
      cases e : G (B'' r) with
      | none => rfl
      | some v => rw [hf _ v e (fun q hq e3 => hl ⟨q, hq, e3⟩)] at e2; cases e2
theorem zM.ne0 {d : zD} {B : Nat → Nat} {V : Nat → Nat → Int32} {nk ns ne ec : Nat} {G : zG} (h : zM d B V nk ns ne ec G) : ∀ r, mlive nk ns ne r → G (B r) ≠ none := fun r hr e => by
  have := h.1.2 r hr; rw [e] at this; cases this
theorem mFr.nw {B : Nat → Nat} {nk ns ne : Nat} {G G2 : zG} {a : Nat} {w : va_E} (h : mFr B nk ns ne G G2) (ha : G a = none) : mFr B nk ns ne G (zu G2 a w) := zFr.nw h ha
/-- what an interface's add leaves: the element behind the others, in data that is old (b = a) or new -/
def zAd (d : zD) (h a cap n v : Nat) (mc : Int32) (f : Nat → Option Nat) (G : zG) : Option Value → zG → Prop := fun r G1 => r = some (.int 1) ∧ ∃ b cap' f', ((b = a ∧ 0 < n ∧ cap' = cap ∧ n < cap) ∨ (G b = none ∧ h ≠ b ∧ ((n = 0 ∧ cap' = 10) ∨ (0 < n ∧ n = cap ∧ cap' = cap + cap / 2)))) ∧ (∀ j, j < n → f' j = f j) ∧ f' n = some v ∧ (∀ j, n < j → (∀ j, n ≤ j → f j = none) → f' j = none) ∧ G1 = zu (zu G b (zO d cap' f')) h (zob 2 [.int (mc + 1), .ref b, .int (nI (n + 1))])

set_option maxHeartbeats 4000000 in
set_option maxRecDepth 100000 in
theorem m_AL_add_1w {g0 : State} {d : zD} {l : Launch} {a0 : Array Value} (hs0 : zS0 d a0 g0) (hst : l.stackTraces = false) {G : zG} {h a cap : Nat} {mc : Int32} {f : Nat → Option Nat} {n v : Nat} (hA : zAL d h a cap n mc f G) (hr : n < cap) (hv : zel d G v) : zMet g0 d l y_AL_add_1 c_AL_add_1 2 ((Option.some Jvm.ClassFile.FieldType.boolean)) 8 1 80 [.ref h, .ref v] (G) (zEq (some (.int 1)) (zu (zu G a (zO d cap (va_up f n (some v)))) h (zob 2 [.int (mc + 1), .ref a, .int (nI (n + 1))]))) (zNo) := by
  obtain ⟨hG_AL, hG_a, hncp, hcp⟩ := id hA
  have hG_AL0 := hG_AL
  refine z_entry hs0 hst (by decide) (Nat.le_of_ble_eq_true rfl) (fun p e s m args below meth c => ?_)
  refine z_aload_n 0 d_AL_add_1_0 rfl rfl ?_
  refine z_dup d_AL_add_1_1 rfl ?_
  refine z_getS zc_AL 0 (by decide) qF_AL_63 qSf_AL_javautilAbstractList_modCount_I hG_AL rfl d_AL_add_1_2 ?_
  refine z_iconst (v := 1) d_AL_add_1_5 (by decide) ?_
  refine z_iadd d_AL_add_1_6 ?_
  refine z_putS zc_AL 0 (by decide) qF_AL_63 qSf_AL_javautilAbstractList_modCount_I hG_AL rfl rfl rfl (Nat.le_of_ble_eq_true rfl) d_AL_add_1_7 ?_
  have hG_AL1 := zu_s (G := G) (a := h) (v := zob 2 [.int (mc + 1), .ref a, .int (nI n)])
  have hv1 : zel d (zu G h (zob 2 [.int (mc + 1), .ref a, .int (nI n)])) v := hv.up (fun e => by
    subst e
    exact ⟨_, _, hG_AL, _, rfl⟩)
  have hG_a1 : zu G h (zob 2 [.int (mc + 1), .ref a, .int (nI n)]) a = some (zO d cap f) := (zu_n (zOO hG_AL hG_a).symm).trans hG_a
  have hA1 : zAL d h a cap n (mc + 1) f (zu G h (zob 2 [.int (mc + 1), .ref a, .int (nI n)])) := ⟨hG_AL1, hG_a1, hncp, hcp⟩
  have hG_AL := hG_AL1
  refine z_aload_n 0 d_AL_add_1_10 rfl rfl ?_
  refine z_aload_n 1 d_AL_add_1_11 rfl rfl ?_
  refine z_aload_n 0 d_AL_add_1_12 rfl rfl ?_
  refine z_get zc_AL 1 (by decide) qF_AL_9 hG_AL rfl d_AL_add_1_13 ?_
  refine z_aload_n 0 d_AL_add_1_16 rfl rfl ?_
  refine z_get zc_AL 2 (by decide) qF_AL_48 hG_AL rfl d_AL_add_1_17 ?_
  refine z_callV0 ((m_AL_add_2b hs0 hst hA1 hr hv1)) ym_AL_add_2 qM_AL_131 qI_AL_add_2 qV_AL_AL_add_2 zc_AL hG_AL d_AL_add_1_20 rfl (Nat.le_of_ble_eq_true rfl) ⟨by decide, by decide⟩ ⟨Nat.le_of_ble_eq_true rfl, Nat.le_of_ble_eq_true rfl⟩ ?_
  refine z_iconst (v := 1) d_AL_add_1_23 (by decide) ?_
  exact z_zret rfl (by first | rfl | exact zb_nar _) (⟨rfl, by rw [zu_comm (zOO hG_AL0 hG_a), zu_zu]⟩) (by first | decide | omega) (by first | decide | omega) d_AL_add_1_24

theorem m_AL_addM {g0 : State} {d : zD} {l : Launch} {a0 : Array Value} (hs0 : zS0 d a0 g0) (hst : l.stackTraces = false) {G : zG} {h a cap n v : Nat} {mc : Int32} {f : Nat → Option Nat} (hG : G h = some (zob 2 [.int mc, .ref (if n = 0 then d.2.2 else a), .int (nI n)])) (hA : 0 < n → G a = some (zO d cap f) ∧ n ≤ cap ∧ 2 ≤ cap ∧ cap ≤ 73 ∧ (n = cap → cap ≤ 50)) (hel : ∀ i z, i < n → f i = some z → zel d G z) (hv : zel d G v) : zMet g0 d l y_AL_add_1 c_AL_add_1 2 (Option.some Jvm.ClassFile.FieldType.boolean) 8 1 80 [.ref h, .ref v] G (zAd d h a cap n v mc f G) zNo := by
  rcases Nat.eq_zero_or_pos n with h0 | h0
  · subst h0
    rw [if_pos rfl] at hG
    refine zMet.imp (m_AL_add_1a hs0 hst hG hv) (fun r G1 hp => ?_) (fun _ _ q => q)
    obtain ⟨rfl, b, hb, -, hhb, rfl⟩ := hp
    exact ⟨rfl, b, 10, va_up zfn 0 (some v), Or.inr ⟨hb, hhb, Or.inl ⟨rfl, rfl⟩⟩, fun j hj => absurd hj (Nat.not_lt_zero _), if_pos rfl, fun j hj _ => if_neg (by omega), rfl⟩
  · obtain ⟨hGa, hn, h2, h73, h50⟩ := hA h0
    rw [if_neg (by omega)] at hG
    rcases Nat.lt_or_ge n cap with hlt | hge
    · refine zMet.imp (m_AL_add_1w hs0 hst ⟨hG, hGa, hn, by omega⟩ hlt hv) (fun r G1 hp => ?_) (fun _ _ q => q)
      obtain ⟨rfl, rfl⟩ := hp
      exact ⟨rfl, a, cap, va_up f n (some v), Or.inl ⟨rfl, h0, rfl, hlt⟩, fun j hj => if_neg (by omega), if_pos rfl, fun j hj hf => (if_neg (by omega)).trans (hf j (by omega)), rfl⟩
    · have e : n = cap := by omega
      subst e
      refine zMet.imp (m_AL_add_1c hs0 hst ⟨hG, hGa, hn, by omega⟩ h2 (h50 rfl) hel hv) (fun r G1 hp => ?_) (fun _ _ q => q)
      obtain ⟨rfl, b, hb, -, hhb, rfl⟩ := hp
      refine ⟨rfl, b, n + n / 2, va_up (va_cpy f zfn 0 0 n) n (some v), Or.inr ⟨hb, hhb, Or.inr ⟨h0, rfl, rfl⟩⟩, fun j hj => (if_neg (by omega)).trans ((pk_cpy_in (by omega) (by omega)).trans (congrArg f (by omega))), if_pos rfl, fun j hj _ => (if_neg (by omega)).trans (pk_cpy_out (by omega)), rfl⟩


theorem zel.out {d : zD} {G : zG} {v a : Nat} {w : va_E} (h : zel d G v) (hn : G a = none) : zel d (zu G a w) v := h.new hn
def zBe (B : Nat → Nat) (ne a b : Nat) : Nat → Nat := fun r => if r = 500 + ne then a else if r = 6 then b else B r
theorem mcell_B {d : zD} {B B' : Nat → Nat} {ec ec' nk ns ne nk' ns' ne' r : Nat} {v : Nat → Int32} (h1 : r ≠ 1) (h2 : r ≠ 2) (h3 : r ≠ 3) (h4 : r ≠ 4) (h5 : r ≠ 5) (h6 : r ≠ 6) (hB : ∀ q, 1 ≤ q → q < 10 → q ≠ 2 → q ≠ 4 → q ≠ 6 → B' q = B q) (hi : 200 ≤ r → r < 300 → B' (r + 100) = B (r + 100) ∧ B' (r + 200) = B (r + 200)) : mcell d B' ec' nk' ns' ne' r v = mcell d B ec nk ns ne r v := by
  unfold mcell
  split
  · split <;> first | rfl | contradiction | (simp only [hB 1 (by decide) (by decide) (by decide) (by decide) (by decide), hB 3 (by decide) (by decide) (by decide) (by decide) (by decide), hB 5 (by decide) (by decide) (by decide) (by decide) (by decide), hB 7 (by decide) (by decide) (by decide) (by decide) (by decide), hB 8 (by decide) (by decide) (by decide) (by decide) (by decide), hB 9 (by decide) (by decide) (by decide) (by decide) (by decide)])
  · split
    · rfl
    · split
      · rename_i g1 g2 g3
        rw [(hi (by omega) g3).1, (hi (by omega) g3).2]
      · rfl
section ZMN
variable {d : zD} {B : Nat → Nat} {V : Nat → Nat → Int32} {nk ns ne ec : Nat} {G G1 : zG}
theorem ml_2 (h : 0 < nk) : mlive nk ns ne 2 := by unfold mlive; omega
theorem ml_4 (h : 0 < ns) : mlive nk ns ne 4 := by unfold mlive; omega
theorem ml_6 (h : 0 < ne) : mlive nk ns ne 6 := by unfold mlive; omega
/-- the lists as they are, for add -/
theorem zM.kq (h : zM d B V nk ns ne ec G) : (0 < nk → G (B 2) = some (zO d 10 (fun j => if j < nk then some (B (100 + j)) else none)) ∧ nk ≤ 10 ∧ 2 ≤ 10 ∧ 10 ≤ 73 ∧ (nk = 10 → 10 ≤ 50)) ∧ ∀ i z, i < nk → (fun j => if j < nk then some (B (100 + j)) else none) i = some z → zel d G z := by
  refine ⟨fun h0 => ⟨h.1.2 2 (ml_2 h0), by have := h.2.1; omega, by decide, by decide, fun _ => by decide⟩, fun i z hi hz => ?_⟩
  have e := (if_pos (c := i < nk) (t := some (B (100 + i))) (e := none) hi).symm.trans hz
  cases e
  exact Or.inl ⟨10, _, _, _, _, _, zc_MK, qT_MK_Oj, h.ke hi⟩
theorem zM.sq (h : zM d B V nk ns ne ec G) : (0 < ns → G (B 4) = some (zO d 10 (fun j => if j < ns then some (B (200 + j)) else none)) ∧ ns ≤ 10 ∧ 2 ≤ 10 ∧ 10 ≤ 73 ∧ (ns = 10 → 10 ≤ 50)) ∧ ∀ i z, i < ns → (fun j => if j < ns then some (B (200 + j)) else none) i = some z → zel d G z := by
  refine ⟨fun h0 => ⟨h.1.2 4 (ml_4 h0), by have := h.2.2.1; omega, by decide, by decide, fun _ => by decide⟩, fun i z hi hz => ?_⟩
  have e := (if_pos (c := i < ns) (t := some (B (200 + i))) (e := none) hi).symm.trans hz
  cases e
  exact Or.inl ⟨11, _, _, _, _, _, zc_MS, qT_MS_Oj, (h.se hi).1⟩
theorem zM.eq (h : zM d B V nk ns ne ec G) (h64 : ne < 64) : (0 < ne → G (B 6) = some (zO d ec (fun j => if j < ne then some (B (500 + j)) else none)) ∧ ne ≤ ec ∧ 2 ≤ ec ∧ ec ≤ 73 ∧ (ne = ec → ec ≤ 50)) ∧ ∀ i z, i < ne → (fun j => if j < ne then some (B (500 + j)) else none) i = some z → zel d G z := by
  refine ⟨fun h0 => ⟨h.1.2 6 (ml_6 h0), h.2.2.2.2.2.1, by have := h.2.2.2.2.1; unfold mcap at this; omega, by have := h.2.2.2.2.1; unfold mcap at this; omega, fun e => by have := h.2.2.2.2.1; unfold mcap at this; omega⟩, fun i z hi hz => ?_⟩
  have e := (if_pos (c := i < ne) (t := some (B (500 + i))) (e := none) hi).symm.trans hz
  cases e
  exact Or.inr ⟨4, _, h.en hi⟩
set_option maxHeartbeats 4000000 in
/-- an entry more -/
theorem zM.newe (h : zM d B V nk ns ne ec G) (hk : ne < 64) {a b cap' : Nat} {f' : Nat → Option Nat} (w : Nat → Int32) (mc : Int32) (ha : G a = none) (hd : (b = B 6 ∧ 0 < ne ∧ cap' = ec ∧ ne < ec) ∨ (G b = none ∧ a ≠ b ∧ ((ne = 0 ∧ cap' = 10) ∨ (0 < ne ∧ ne = ec ∧ cap' = ec + ec / 2)))) (hf : f' = fun j => if j < ne + 1 then some (zBe B ne a b (500 + j)) else none) :
    zM d (zBe B ne a b) (rset (rset V (500 + ne) w) 5 (fun _ => mc)) nk ns (ne + 1) cap' (zu (zu (zu G a (zI d 4 w)) b (zO d cap' f')) (B 5) (zob 2 [.int mc, .ref b, .int (nI (ne + 1))])) ∧ mNw B (zBe B ne a b) nk ns ne nk ns (ne + 1) G ∧ mFr B nk ns ne G (zu (zu (zu G a (zI d 4 w)) b (zO d cap' f')) (B 5) (zob 2 [.int mc, .ref b, .int (nI (ne + 1))])) := by
  have e1 : ∀ r, r ≠ 500 + ne → r ≠ 6 → zBe B ne a b r = B r := fun r h1 h2 => (if_neg h1).trans (if_neg h2)
  have e6 : zBe B ne a b 6 = b := (if_neg (by omega)).trans (if_pos rfl)
  have e5 : zBe B ne a b (500 + ne) = a := if_pos rfl
  have hold : ∀ r, mlive nk ns (ne + 1) r → r ≠ 500 + ne → r ≠ 6 → mlive nk ns ne r := fun r hr h1 h2 => by unfold mlive at *; omega
  have hna : ∀ r, mlive nk ns ne r → B r ≠ a := h.nn_ ha
  have hab : a ≠ b := by
    rcases hd with ⟨rfl, h0, -⟩ | ⟨-, h2, -⟩
    · exact (hna 6 (ml_6 h0)).symm
    · exact h2
  have hbr : ∀ r, mlive nk ns ne r → r ≠ 6 → B r ≠ b := fun r hr h2 e => by
    rcases hd with ⟨rfl, h0, -⟩ | ⟨hb, -⟩
    · exact h2 (h.1.1 r 6 hr (ml_6 h0) e)
    · exact h.nn_ hb r hr e
  have h5b : B 5 ≠ b := hbr 5 (ml_s 5) (by decide)
  have hbn : (0 < ne ∧ b = B 6) ∨ G b = none := by
    rcases hd with ⟨rfl, h0, -⟩ | ⟨hb, -⟩
    · exact Or.inl ⟨h0, rfl⟩
    · exact Or.inr hb
  have hNN : ∀ r, mlive nk ns (ne + 1) r → (mlive nk ns ne r ∧ zBe B ne a b r = B r) ∨ G (zBe B ne a b r) = none := fun r hr => by
    by_cases r1 : r = 500 + ne
    · exact Or.inr (by rw [r1, e5]; exact ha)
    · by_cases r2 : r = 6
      · subst r2
        rcases hbn with ⟨h0, hb⟩ | hb
        · exact Or.inl ⟨ml_6 h0, by rw [e6]; exact hb⟩
        · exact Or.inr (by rw [e6]; exact hb)
      · exact Or.inl ⟨hold r hr r1 r2, e1 r r1 r2⟩
  refine ⟨⟨h.1.grow hNN (fun r q hr hq n1 n2 e => ?_) (fun r hr => ?_), ?_⟩, ⟨e1 0 (by omega) (by decide), fun r hr => ?_⟩, ?_⟩
  · have hcl : ∀ z, mlive nk ns (ne + 1) z → G (zBe B ne a b z) = none → z = 500 + ne ∨ z = 6 := fun z hz hn => by
      by_cases z1 : z = 500 + ne
      · exact Or.inl z1
      · by_cases z2 : z = 6
        · exact Or.inr z2
        · rw [e1 z z1 z2] at hn
          exact absurd hn (h.ne0 z (hold z hz z1 z2))
    rcases hcl r hr n1 with r1 | r1 <;> rcases hcl q hq n2 with q1 | q1
    · omega
    · rw [r1, q1, e5, e6] at e; exact absurd e hab
    · rw [r1, q1, e5, e6] at e; exact absurd e.symm hab
    · omega
  · by_cases r1 : r = 500 + ne
    · subst r1
      rw [e5, zu_n (hna 5 (ml_s 5)).symm, zu_n hab, zu_s, rset_n (by omega), rset_s, mcell_e (by omega)]
    · by_cases r2 : r = 6
      · subst r2
        rw [e6, zu_n h5b.symm, zu_s, hf]
        rfl
      · by_cases r3 : r = 5
        · subst r3
          rw [e1 5 (by omega) (by decide), zu_s, rset_s]
          show _ = some (zob 2 [.int mc, .ref (if ne + 1 = 0 then d.2.2 else zBe B ne a b 6), .int (nI (ne + 1))])
          rw [if_neg (by omega), e6]
        · have hl := hold r hr r1 r2
          rw [e1 r r1 r2, zu_n (fun e => r3 (h.1.1 r 5 hl (ml_s 5) e)), zu_n (hbr r hl r2), zu_n (hna r hl), rset_n r3, rset_n r1]
          refine (h.1.2 r hl).trans (congrArg some ?_)
          have hns := h.2.2.1
          have hnk := h.2.1
          by_cases r4 : r = 1
          · subst r4
            show zob 2 [_, .ref (if nk = 0 then d.2.2 else B 2), _] = zob 2 [_, .ref (if nk = 0 then d.2.2 else zBe B ne a b 2), _]
            rw [e1 2 (by omega) (by decide)]
          · by_cases r5 : r = 2
            · subst r5
              show zO d 10 _ = zO d 10 (fun j => if j < nk then some (zBe B ne a b (100 + j)) else none)
              have : (fun j => if j < nk then some (zBe B ne a b (100 + j)) else none) = (fun j => if j < nk then some (B (100 + j)) else none) := funext fun j => by
                by_cases hj : j < nk
                · rw [if_pos hj, if_pos hj, e1 (100 + j) (by omega) (by omega)]
                · rw [if_neg hj, if_neg hj]
              rw [this]
            · by_cases r6 : r = 3
              · subst r6
                show zob 2 [_, .ref (if ns = 0 then d.2.2 else B 4), _] = zob 2 [_, .ref (if ns = 0 then d.2.2 else zBe B ne a b 4), _]
                rw [e1 4 (by omega) (by decide)]
              · by_cases r7 : r = 4
                · subst r7
                  show zO d 10 _ = zO d 10 (fun j => if j < ns then some (zBe B ne a b (200 + j)) else none)
                  have : (fun j => if j < ns then some (zBe B ne a b (200 + j)) else none) = (fun j => if j < ns then some (B (200 + j)) else none) := funext fun j => by
                    by_cases hj : j < ns
                    · rw [if_pos hj, if_pos hj, e1 (200 + j) (by omega) (by omega)]
                    · rw [if_neg hj, if_neg hj]
                  rw [this]
                · exact (mcell_B r4 r5 r6 r7 r3 r2 (fun q q1 q2 q3 q4 q5 => e1 q (by omega) q5) (fun g1 g2 => ⟨e1 _ (by omega) (by omega), e1 _ (by omega) (by omega)⟩)).symm
  · obtain ⟨i1, i2, i3, i4, i5, i6, i7, i8, i9⟩ := h.2
    have hcp : mcap cap' ∧ ne + 1 ≤ cap' := by
      unfold mcap at i4 ⊢
      rcases hd with ⟨-, -, e, hlt⟩ | ⟨-, -, ⟨h0, e⟩ | ⟨-, h0, e⟩⟩
      · omega
      · omega
      · subst e
        rcases i4 with rfl | rfl | rfl | rfl | rfl | rfl <;> omega
    refine ⟨i1, i2, by omega, hcp.1, hcp.2, fun q hq => by rw [rset_n (by omega), rset_n (by omega)]; exact i6 q hq, fun q hq j h1 h2 => by rw [rset_n (by omega), rset_n (by omega)]; exact i7 q hq j h1 h2, fun q hq => by rw [rset_n (by omega), rset_n (by omega)]; exact i8 q hq, fun q hq => by rw [rset_n (by omega), rset_n (by omega)]; exact i9 q hq⟩
  · rcases hNN r hr with ⟨l, e⟩ | e
    · exact Or.inl ⟨r, l, e⟩
    · exact Or.inr e
  · have f1 : mFr B nk ns ne G (zu G a (zI d 4 w)) := mFr.nw zFr.rf ha
    have f2 : mFr B nk ns ne G (zu (zu G a (zI d 4 w)) b (zO d cap' f')) := by
      rcases hbn with ⟨h0, rfl⟩ | hb
      · exact f1.tr (zM.frput (ml_6 h0) rfl)
      · exact f1.nw hb
    exact f2.tr (zM.frput (ml_s 5) rfl)
/-- written: an entry more, or none; the other addresses are as they were -/
def mTw (d : zD) (B : Nat → Nat) (nk ns ne : Nat) (V : Nat → Nat → Int32) (G : zG) (R : Option Value → Prop) : Option Value → zG → Prop := fun r G1 => R r ∧ ∃ B' V' ne' ec', zM d B' V' nk ns ne' ec' G1 ∧ zKm V V' ∧ mNw B B' nk ns ne nk ns ne' G ∧ mFr B nk ns ne G G1 ∧ ∀ q, q < 500 → q ≠ 6 → B' q = B q
end ZMN

