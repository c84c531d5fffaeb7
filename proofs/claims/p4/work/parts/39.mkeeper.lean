
def zBk (B : Nat → Nat) (nk a b : Nat) : Nat → Nat := fun r => if r = 100 + nk then a else if r = 2 then b else B r
abbrev zk0 (w : Nat → Int32) : va_E := zob 10 [.int (w 0), .int (w 1), .int (w 2), .int (w 3), .int (w 4)]
def zw5 (a b c e f : Int32) : Nat → Int32 | 0 => a | 1 => b | 2 => c | 3 => e | _ => f
section ZMK
variable {d : zD} {B : Nat → Nat} {V : Nat → Nat → Int32} {nk ns ne ec : Nat} {G G1 : zG}
set_option maxHeartbeats 4000000 in
/-- a keeper more -/
theorem zM.newk (h : zM d B V nk ns ne ec G) (hk : nk < 8) {a b : Nat} {f' : Nat → Option Nat} (w : Nat → Int32) (hw4 : ∃ b, w 4 = zb b) (mc : Int32) (ha : G a = none) (hd : (b = B 2 ∧ 0 < nk) ∨ (G b = none ∧ a ≠ b)) (hf : f' = fun j => if j < nk + 1 then some (zBk B nk a b (100 + j)) else none) :
    zM d (zBk B nk a b) (rset (rset V (100 + nk) w) 1 (fun _ => mc)) (nk + 1) ns ne ec (zu (zu (zu G a (zk0 w)) b (zO d 10 f')) (B 1) (zob 2 [.int mc, .ref b, .int (nI (nk + 1))])) ∧ mNw B (zBk B nk a b) nk ns ne (nk + 1) ns ne G ∧ mFr B nk ns ne G (zu (zu (zu G a (zk0 w)) b (zO d 10 f')) (B 1) (zob 2 [.int mc, .ref b, .int (nI (nk + 1))])) := by
  have e1 : ∀ r, r ≠ 100 + nk → r ≠ 2 → zBk B nk a b r = B r := fun r h1 h2 => (if_neg h1).trans (if_neg h2)
  have e2x : zBk B nk a b 2 = b := (if_neg (by omega)).trans (if_pos rfl)
  have ekx : zBk B nk a b (100 + nk) = a := if_pos rfl
  have hold : ∀ r, mlive (nk + 1) ns ne r → r ≠ 100 + nk → r ≠ 2 → mlive nk ns ne r := fun r hr h1 h2 => by unfold mlive at *; omega
  have hna : ∀ r, mlive nk ns ne r → B r ≠ a := h.nn_ ha
  have hab : a ≠ b := by
    rcases hd with ⟨rfl, h0⟩ | ⟨-, h2⟩
    · exact (hna 2 (ml_2 h0)).symm
    · exact h2
  have hbr : ∀ r, mlive nk ns ne r → r ≠ 2 → B r ≠ b := fun r hr h2 e => by
    rcases hd with ⟨rfl, h0⟩ | ⟨hb, -⟩
    · exact h2 (h.1.1 r 2 hr (ml_2 h0) e)
    · exact h.nn_ hb r hr e
  have h5b : B 1 ≠ b := hbr 1 (ml_s 1) (by decide)
  have hbn : (0 < nk ∧ b = B 2) ∨ G b = none := by
    rcases hd with ⟨rfl, h0⟩ | ⟨hb, -⟩
    · exact Or.inl ⟨h0, rfl⟩
    · exact Or.inr hb
  have hNN : ∀ r, mlive (nk + 1) ns ne r → (mlive nk ns ne r ∧ zBk B nk a b r = B r) ∨ G (zBk B nk a b r) = none := fun r hr => by
    by_cases r1 : r = 100 + nk
    · exact Or.inr (by rw [r1, ekx]; exact ha)
    · by_cases r2 : r = 2
      · subst r2
        rcases hbn with ⟨h0, hb⟩ | hb
        · exact Or.inl ⟨ml_2 h0, by rw [e2x]; exact hb⟩
        · exact Or.inr (by rw [e2x]; exact hb)
      · exact Or.inl ⟨hold r hr r1 r2, e1 r r1 r2⟩
  refine ⟨⟨h.1.grow hNN (fun r q hr hq n1 n2 e => ?_) (fun r hr => ?_), ?_⟩, ⟨e1 0 (by omega) (by decide), fun r hr => ?_⟩, ?_⟩
  · have hcl : ∀ z, mlive (nk + 1) ns ne z → G (zBk B nk a b z) = none → z = 100 + nk ∨ z = 2 := fun z hz hn => by
      by_cases z1 : z = 100 + nk
      · exact Or.inl z1
      · by_cases z2 : z = 2
        · exact Or.inr z2
        · rw [e1 z z1 z2] at hn
          exact absurd hn (h.ne0 z (hold z hz z1 z2))
    rcases hcl r hr n1 with r1 | r1 <;> rcases hcl q hq n2 with q1 | q1
    · omega
    · rw [r1, q1, ekx, e2x] at e; exact absurd e hab
    · rw [r1, q1, ekx, e2x] at e; exact absurd e.symm hab
    · omega
  · by_cases r1 : r = 100 + nk
    · subst r1
      rw [ekx, zu_n (hna 1 (ml_s 1)).symm, zu_n hab, zu_s, rset_n (by omega), rset_s, mcell_k (by omega)]
    · by_cases r2 : r = 2
      · subst r2
        rw [e2x, zu_n h5b.symm, zu_s, hf]
        rfl
      · by_cases r3 : r = 1
        · subst r3
          rw [e1 1 (by omega) (by decide), zu_s, rset_s]
          show _ = some (zob 2 [.int mc, .ref (if nk + 1 = 0 then d.2.2 else zBk B nk a b 2), .int (nI (nk + 1))])
          rw [if_neg (by omega), e2x]
        · have hl := hold r hr r1 r2
          rw [e1 r r1 r2, zu_n (fun e => r3 (h.1.1 r 1 hl (ml_s 1) e)), zu_n (hbr r hl r2), zu_n (hna r hl), rset_n r3, rset_n r1]
          refine (h.1.2 r hl).trans (congrArg some ?_)
          have hns := h.2.2.1
          have hne := h.2.2.2.1
          by_cases r4 : r = 3
          · subst r4
            show zob 2 [_, .ref (if ns = 0 then d.2.2 else B 4), _] = zob 2 [_, .ref (if ns = 0 then d.2.2 else zBk B nk a b 4), _]
            rw [e1 4 (by omega) (by decide)]
          · by_cases r5 : r = 4
            · subst r5
              show zO d 10 _ = zO d 10 (fun j => if j < ns then some (zBk B nk a b (200 + j)) else Option.none)
              have : (fun j => if j < ns then some (zBk B nk a b (200 + j)) else Option.none) = (fun j => if j < ns then some (B (200 + j)) else Option.none) := funext fun j => by rw [e1 (200 + j) (by omega) (by omega)]
              rw [this]
            · by_cases r6 : r = 5
              · subst r6
                show zob 2 [_, .ref (if ne = 0 then d.2.2 else B 6), _] = zob 2 [_, .ref (if ne = 0 then d.2.2 else zBk B nk a b 6), _]
                rw [e1 6 (by omega) (by decide)]
              · by_cases r7 : r = 6
                · subst r7
                  show zO d ec _ = zO d ec (fun j => if j < ne then some (zBk B nk a b (500 + j)) else Option.none)
                  have : (fun j => if j < ne then some (zBk B nk a b (500 + j)) else Option.none) = (fun j => if j < ne then some (B (500 + j)) else Option.none) := funext fun j => by rw [e1 (500 + j) (by omega) (by omega)]
                  rw [this]
                · exact (mcell_B r3 r2 r4 r5 r6 r7 (fun q q1 q2 q3 q4 q5 => e1 q (by omega) q3) (fun g1 g2 => ⟨e1 _ (by omega) (by omega), e1 _ (by omega) (by omega)⟩)).symm
  · obtain ⟨i1, i2, i3, i4, i5, i6, i7, i8, i9⟩ := h.2
    refine ⟨by omega, i2, i3, i4, i5, fun q hq => by rw [rset_n (by omega), rset_n (by omega)]; exact i6 q hq, fun q hq j h1 h2 => by rw [rset_n (by omega), rset_n (by omega)]; exact i7 q hq j (by omega) h2, fun q hq => by rw [rset_n (by omega), rset_n (by omega)]; exact i8 q hq, fun q hq => ?_⟩
    by_cases ek : q = nk
    · subst ek; rw [rset_n (by omega), rset_s]; exact hw4
    · rw [rset_n (by omega), rset_n (by omega)]; exact i9 q (by omega)
  · rcases hNN r hr with ⟨l, e⟩ | e
    · exact Or.inl ⟨r, l, e⟩
    · exact Or.inr e
  · have f1 : mFr B nk ns ne G (zu G a (zk0 w)) := mFr.nw zFr.rf ha
    have f2 : mFr B nk ns ne G (zu (zu G a (zk0 w)) b (zO d 10 f')) := by
      rcases hbn with ⟨h0, rfl⟩ | hb
      · exact f1.tr (zM.frput (ml_2 h0) rfl)
      · exact f1.nw hb
    exact f2.tr (zM.frput (ml_s 1) rfl)

end ZMK
theorem mFr.none_ {d : zD} {B : Nat → Nat} {V : Nat → Nat → Int32} {nk ns ne ec : Nat} {G G2 : zG} {b : Nat} (hF : mFr B nk ns ne G G2) (h : zM d B V nk ns ne ec G2) (hb : G2 b = none) : G b = none := by
  cases e : G b with
  | none => rfl
  | some v => rw [hF b v e (fun r hr => (h.nn_ hb r hr).symm)] at hb; cases hb

theorem d_Mo_keeper_0 : decode c_Mo_keeper 0 = .ok (.aload_n 0, 1) := by decide +kernel
theorem d_Mo_keeper_1 : decode c_Mo_keeper 1 = .ok (.iconst 0, 1) := by decide +kernel
theorem d_Mo_keeper_2 : decode c_Mo_keeper 2 = .ok (.putfield 36, 3) := by decide +kernel
theorem d_Mo_keeper_5 : decode c_Mo_keeper 5 = .ok (.iload_n 1, 1) := by decide +kernel
theorem d_Mo_keeper_6 : decode c_Mo_keeper 6 = .ok (.iconst 0, 1) := by decide +kernel
theorem d_Mo_keeper_7 : decode c_Mo_keeper 7 = .ok (.iconst 3, 1) := by decide +kernel
theorem d_Mo_keeper_8 : decode c_Mo_keeper 8 = .ok (.invokestatic 115, 3) := by decide +kernel
theorem d_Mo_keeper_11 : decode c_Mo_keeper 11 = .ok (.ifCond .eq 23, 3) := by decide +kernel
theorem d_Mo_keeper_14 : decode c_Mo_keeper 14 = .ok (.iload_n 2, 1) := by decide +kernel
theorem d_Mo_keeper_15 : decode c_Mo_keeper 15 = .ok (.iconst 1, 1) := by decide +kernel
theorem d_Mo_keeper_16 : decode c_Mo_keeper 16 = .ok (.bipush 99, 2) := by decide +kernel
theorem d_Mo_keeper_18 : decode c_Mo_keeper 18 = .ok (.invokestatic 115, 3) := by decide +kernel
theorem d_Mo_keeper_21 : decode c_Mo_keeper 21 = .ok (.ifCond .eq 13, 3) := by decide +kernel
theorem d_Mo_keeper_24 : decode c_Mo_keeper 24 = .ok (.iload_n 3, 1) := by decide +kernel
theorem d_Mo_keeper_25 : decode c_Mo_keeper 25 = .ok (.iconst 0, 1) := by decide +kernel
theorem d_Mo_keeper_26 : decode c_Mo_keeper 26 = .ok (.bipush 100, 2) := by decide +kernel
theorem d_Mo_keeper_28 : decode c_Mo_keeper 28 = .ok (.invokestatic 115, 3) := by decide +kernel
theorem d_Mo_keeper_31 : decode c_Mo_keeper 31 = .ok (.ifCond .ne 9, 3) := by decide +kernel
theorem d_Mo_keeper_34 : decode c_Mo_keeper 34 = .ok (.aload_n 0, 1) := by decide +kernel
theorem d_Mo_keeper_35 : decode c_Mo_keeper 35 = .ok (.iconst 1, 1) := by decide +kernel
theorem d_Mo_keeper_36 : decode c_Mo_keeper 36 = .ok (.invokevirtual 119, 3) := by decide +kernel
theorem d_Mo_keeper_39 : decode c_Mo_keeper 39 = .ok (.ireturn, 1) := by decide +kernel
theorem d_Mo_keeper_40 : decode c_Mo_keeper 40 = .ok (.aload_n 0, 1) := by decide +kernel
theorem d_Mo_keeper_41 : decode c_Mo_keeper 41 = .ok (.getfield 16, 3) := by decide +kernel
theorem d_Mo_keeper_44 : decode c_Mo_keeper 44 = .ok (.invokeinterface 94 1, 5) := by decide +kernel
theorem d_Mo_keeper_49 : decode c_Mo_keeper 49 = .ok (.bipush 8, 2) := by decide +kernel
theorem d_Mo_keeper_51 : decode c_Mo_keeper 51 = .ok (.if_icmp .ne 9, 3) := by decide +kernel
theorem d_Mo_keeper_54 : decode c_Mo_keeper 54 = .ok (.aload_n 0, 1) := by decide +kernel
theorem d_Mo_keeper_55 : decode c_Mo_keeper 55 = .ok (.iconst 2, 1) := by decide +kernel
theorem d_Mo_keeper_56 : decode c_Mo_keeper 56 = .ok (.invokevirtual 119, 3) := by decide +kernel
theorem d_Mo_keeper_59 : decode c_Mo_keeper 59 = .ok (.ireturn, 1) := by decide +kernel
theorem d_Mo_keeper_60 : decode c_Mo_keeper 60 = .ok (.aload_n 0, 1) := by decide +kernel
theorem d_Mo_keeper_61 : decode c_Mo_keeper 61 = .ok (.getfield 16, 3) := by decide +kernel
theorem d_Mo_keeper_64 : decode c_Mo_keeper 64 = .ok (.new 57, 3) := by decide +kernel
theorem d_Mo_keeper_67 : decode c_Mo_keeper 67 = .ok (.dup, 1) := by decide +kernel
theorem d_Mo_keeper_68 : decode c_Mo_keeper 68 = .ok (.iload_n 1, 1) := by decide +kernel
theorem d_Mo_keeper_69 : decode c_Mo_keeper 69 = .ok (.iload_n 2, 1) := by decide +kernel
theorem d_Mo_keeper_70 : decode c_Mo_keeper 70 = .ok (.iload_n 3, 1) := by decide +kernel
theorem d_Mo_keeper_71 : decode c_Mo_keeper 71 = .ok (.invokespecial 122, 3) := by decide +kernel
theorem d_Mo_keeper_74 : decode c_Mo_keeper 74 = .ok (.invokeinterface 111 2, 5) := by decide +kernel
theorem d_Mo_keeper_79 : decode c_Mo_keeper 79 = .ok (.pop, 1) := by decide +kernel
theorem d_Mo_keeper_80 : decode c_Mo_keeper 80 = .ok (.aload_n 0, 1) := by decide +kernel
theorem d_Mo_keeper_81 : decode c_Mo_keeper 81 = .ok (.getfield 16, 3) := by decide +kernel
theorem d_Mo_keeper_84 : decode c_Mo_keeper 84 = .ok (.invokeinterface 94 1, 5) := by decide +kernel
theorem d_Mo_keeper_89 : decode c_Mo_keeper 89 = .ok (.iconst 1, 1) := by decide +kernel
theorem d_Mo_keeper_90 : decode c_Mo_keeper 90 = .ok (.isub, 1) := by decide +kernel
theorem d_Mo_keeper_91 : decode c_Mo_keeper 91 = .ok (.ireturn, 1) := by decide +kernel
set_option maxHeartbeats 4000000 in
set_option maxRecDepth 100000 in
theorem m_Mo_keeper {g0 : State} {d : zD} {l : Launch} {a0 : Array Value} (hs0 : zS0 d a0 g0) (hst : l.stackTraces = false) {G : zG} {B : Nat → Nat} {V : Nat → Nat → Int32} {nk ns ne ec : Nat} (hM : zM d B V nk ns ne ec G) (x z w : Int32) : zMet g0 d l y_Mo_keeper c_Mo_keeper 4 ((Option.some Jvm.ClassFile.FieldType.int)) 9 2 85 [.ref (B 0), .int x, .int z, .int w] (G) (fun r G1 => (zkok x z w = false ∧ r = some (.int 0) ∧ ∃ V', zM d B V' nk ns ne ec G1 ∧ V' 0 0 = 1 ∧ zKn V V' ∧ mFr B nk ns ne G G1) ∨ (zkok x z w = true ∧ nk = 8 ∧ r = some (.int 0) ∧ ∃ V', zM d B V' nk ns ne ec G1 ∧ V' 0 0 = 2 ∧ zKn V V' ∧ mFr B nk ns ne G G1) ∨ (zkok x z w = true ∧ nk < 8 ∧ r = some (.int (nI nk)) ∧ ∃ B' V', zM d B' V' (nk + 1) ns ne ec G1 ∧ mNw B B' nk ns ne (nk + 1) ns ne G ∧ V' 0 0 = 0 ∧ (∀ r j, zmo_ r j → ¬ (r = 0 ∧ j = 0) → r ≠ 100 + nk → V' r j = V r j) ∧ (V' (100 + nk) 0 = x ∧ V' (100 + nk) 1 = z ∧ V' (100 + nk) 2 = w ∧ V' (100 + nk) 3 = 0) ∧ mFr B nk ns ne G G1)) (zNo) := by
  have hnk : nk ≤ 8 := hM.2.1
  have hns : ns ≤ 6 := hM.2.2.1
  have hne : ne ≤ 64 := hM.2.2.2.1
  have hp2 : 2 ^ nk ≤ 256 := Nat.pow_le_pow_right (n := 2) (by decide) hnk
  refine z_entry hs0 hst (by decide) (Nat.le_of_ble_eq_true rfl) (fun p e s m args below meth c => ?_)
  refine z_aload_n 0 d_Mo_keeper_0 rfl rfl ?_
  refine z_iconst (v := 0) d_Mo_keeper_1 (by decide) ?_
  refine z_put zc_Mo 0 (by decide) qF_Mo_36 hM.mo rfl rfl rfl (Nat.le_of_ble_eq_true rfl) d_Mo_keeper_2 ?_
  obtain ⟨V1, hM1, hK1, hF1, hT1⟩ := hM.putT 0
  refine z_iload_n 1 d_Mo_keeper_5 rfl rfl ?_
  refine z_iconst (v := 0) d_Mo_keeper_6 (by decide) ?_
  refine z_iconst (v := 3) d_Mo_keeper_7 (by decide) ?_
  refine z_callS0 (m_Mo_in hs0 hst x 0 _) ym_Mo_in qM_Mo_115 qS_Mo_in d_Mo_keeper_8 rfl (Nat.le_of_ble_eq_true rfl) ⟨by decide, by decide⟩ ⟨Nat.le_of_ble_eq_true rfl, Nat.le_of_ble_eq_true rfl⟩ ?_
  refine z_if_eq 34 d_Mo_keeper_11 (by decide) (fun c_11 => ?_) (fun c_11 => ?_)
  · skip
    refine z_aload_n 0 d_Mo_keeper_34 rfl rfl ?_
    refine z_iconst (v := 1) d_Mo_keeper_35 (by decide) ?_
    refine z_callV0 (m_Mo_no hs0 hst hM1.mo 1) ym_Mo_no qM_Mo_119 qI_Mo_no qV_Mo_Mo_no zc_Mo hM1.mo d_Mo_keeper_36 rfl (Nat.le_of_ble_eq_true rfl) ⟨by decide, by decide⟩ ⟨Nat.le_of_ble_eq_true rfl, Nat.le_of_ble_eq_true rfl⟩ ?_
    obtain ⟨V9, hM9, hK9, hF9, hT9⟩ := hM1.putT 1
    exact z_iret rfl (Or.inl ⟨by unfold zkok; first | (rw [(zb_0 _).mp c_11]; rfl) | (rw [(zb_0 _).mp c_21, Bool.false_and, Bool.and_false]) | (rw [(zb_0 _).mp c_31, Bool.and_false, Bool.and_false]), rfl, V9, hM9, hT9, hK1.tr hK9, hF1.tr hF9⟩) (by first | decide | omega) (by first | decide | omega) d_Mo_keeper_39
  · skip
    refine z_iload_n 2 d_Mo_keeper_14 rfl rfl ?_
    refine z_iconst (v := 1) d_Mo_keeper_15 (by decide) ?_
    refine z_bipush (v := 99) d_Mo_keeper_16 (by decide) ?_
    refine z_callS0 (m_Mo_in hs0 hst z 1 _) ym_Mo_in qM_Mo_115 qS_Mo_in d_Mo_keeper_18 rfl (Nat.le_of_ble_eq_true rfl) ⟨by decide, by decide⟩ ⟨Nat.le_of_ble_eq_true rfl, Nat.le_of_ble_eq_true rfl⟩ ?_
    refine z_if_eq 34 d_Mo_keeper_21 (by decide) (fun c_21 => ?_) (fun c_21 => ?_)
    · skip
      refine z_aload_n 0 d_Mo_keeper_34 rfl rfl ?_
      refine z_iconst (v := 1) d_Mo_keeper_35 (by decide) ?_
      refine z_callV0 (m_Mo_no hs0 hst hM1.mo 1) ym_Mo_no qM_Mo_119 qI_Mo_no qV_Mo_Mo_no zc_Mo hM1.mo d_Mo_keeper_36 rfl (Nat.le_of_ble_eq_true rfl) ⟨by decide, by decide⟩ ⟨Nat.le_of_ble_eq_true rfl, Nat.le_of_ble_eq_true rfl⟩ ?_
      obtain ⟨V9, hM9, hK9, hF9, hT9⟩ := hM1.putT 1
      exact z_iret rfl (Or.inl ⟨by unfold zkok; first | (rw [(zb_0 _).mp c_11]; rfl) | (rw [(zb_0 _).mp c_21, Bool.false_and, Bool.and_false]) | (rw [(zb_0 _).mp c_31, Bool.and_false, Bool.and_false]), rfl, V9, hM9, hT9, hK1.tr hK9, hF1.tr hF9⟩) (by first | decide | omega) (by first | decide | omega) d_Mo_keeper_39
    · skip
      refine z_iload_n 3 d_Mo_keeper_24 rfl rfl ?_
      refine z_iconst (v := 0) d_Mo_keeper_25 (by decide) ?_
      refine z_bipush (v := 100) d_Mo_keeper_26 (by decide) ?_
      refine z_callS0 (m_Mo_in hs0 hst w 0 _) ym_Mo_in qM_Mo_115 qS_Mo_in d_Mo_keeper_28 rfl (Nat.le_of_ble_eq_true rfl) ⟨by decide, by decide⟩ ⟨Nat.le_of_ble_eq_true rfl, Nat.le_of_ble_eq_true rfl⟩ ?_
      refine z_if_ne 40 d_Mo_keeper_31 (by decide) (fun c_31 => ?_) (fun c_31 => ?_)
      · skip
        have hok : zkok x z w = true := by unfold zkok; rw [(zb_n0 _).mp c_11, (zb_n0 _).mp c_21, (zb_n0 _).mp c_31]; rfl
        refine z_aload_n 0 d_Mo_keeper_40 rfl rfl ?_
        refine z_get zc_Mo 6 (by decide) qF_Mo_16 hM1.mo rfl d_Mo_keeper_41 ?_
        refine z_callF0 (m_AL_size hs0 hst hM1.kl) ym_AL_size zF_AL_size qM_Mo_94 zc_AL hM1.kl d_Mo_keeper_44 rfl (Nat.le_of_ble_eq_true rfl) ⟨by decide, by decide⟩ ⟨Nat.le_of_ble_eq_true rfl, Nat.le_of_ble_eq_true rfl⟩ ?_
        refine z_bipush (v := (nI 8)) d_Mo_keeper_49 (by decide) ?_
        refine z_icmp_ne 60 d_Mo_keeper_51 (by decide) (fun c_51 => ?_) (fun c_51 => ?_)
        · skip
          refine z_aload_n 0 d_Mo_keeper_60 rfl rfl ?_
          refine z_get zc_Mo 6 (by decide) qF_Mo_16 hM1.mo rfl d_Mo_keeper_61 ?_
          have hk8 : nk < 8 := Nat.lt_of_le_of_ne hnk fun e => c_51 (by rw [e])
          refine z_new (fs := [.int 0, .int 0, .int 0, .int 0, .int 0]) zc_MK qK_Mo_57 qO_MK qN_MK (by decide) ⟨by decide, by decide⟩ d_Mo_keeper_64 (fun a ha hab => ?_)
          have hMo : ∀ u, zM d B V1 nk ns ne ec (zu (zu G (B 0) (zmh B 0 (V 0 1) (V 0 2) (V 0 3) (V 0 4) (V 0 5))) a u) := fun u => hM1.out (hM1.nn_ ha)
          refine z_dup d_Mo_keeper_67 rfl ?_
          refine z_iload_n 1 d_Mo_keeper_68 rfl rfl ?_
          refine z_iload_n 2 d_Mo_keeper_69 rfl rfl ?_
          refine z_iload_n 3 d_Mo_keeper_70 rfl rfl ?_
          refine z_callI0 (m_MK_init hs0 hst x z w zu_s) ym_MK_init rfl qM_Mo_122 qI_MK_init d_Mo_keeper_71 rfl (Nat.le_of_ble_eq_true rfl) ⟨by decide, by decide⟩ ⟨Nat.le_of_ble_eq_true rfl, Nat.le_of_ble_eq_true rfl⟩ ?_
          refine z_one ?_
          refine z_callFp1 ((m_AL_addM hs0 hst (hMo _).kl (hMo _).kq.1 (hMo _).kq.2 (Or.inl ⟨10, _, _, _, _, _, zc_MK, qT_MK_Oj, zu_s⟩))) ym_AL_add_1 zF_AL_add_1 qM_Mo_111 zc_AL (hMo _).kl d_Mo_keeper_74 rfl (Nat.le_of_ble_eq_true rfl) ⟨by decide, by decide⟩ ⟨Nat.le_of_ble_eq_true rfl, Nat.le_of_ble_eq_true rfl⟩ (fun r_74 G_74 hp_74 => ?_)
          obtain ⟨hr_74, b, cap', f', hd9, hf1, hf2, hf3, hg_74⟩ := hp_74
          obtain rfl : r_74 = some (.int 1) := hr_74
          have hd8 : (b = B 2 ∧ 0 < nk) ∨ ((zu G (B 0) (zmh B 0 (V 0 1) (V 0 2) (V 0 3) (V 0 4) (V 0 5))) b = none ∧ a ≠ b) := by
            rcases hd9 with ⟨q1, q2, -⟩ | ⟨q1, q2, q3⟩
            · exact Or.inl ⟨q1, q2⟩
            · have q4 : a ≠ b := fun e => by rw [← e, zu_s] at q1; cases q1
              exact Or.inr ⟨by rw [zu_n q4.symm] at q1; exact q1, q4⟩
          have hcap : cap' = 10 := by
            rcases hd9 with ⟨-, -, q1, -⟩ | ⟨-, -, q1⟩ <;> omega
          subst hcap
          have hfe : f' = fun j => if j < nk + 1 then some (zBk B nk a b (100 + j)) else none := funext fun j => by
            by_cases e1 : j < nk
            · rw [if_pos (by omega), hf1 j e1]
              refine (if_pos e1).trans ?_
              exact congrArg some ((if_neg (by omega)).trans (if_neg (by omega))).symm
            · by_cases e2 : j = nk
              · subst e2
                rw [if_pos (by omega), hf2]
                exact congrArg some (if_pos rfl).symm
              · rw [if_neg (by omega)]
                exact hf3 j (by omega) (fun i hi => if_neg (by omega))
          have hnw := hM1.newk hk8 (zw5 x z w 0 0) ⟨false, rfl⟩ (V1 1 0 + 1) ha hd8 hfe
          have hmo9 := hnw.1.mo
          rw [hnw.2.1.1] at hmo9
          have hsl9 := hnw.1.kl
          subst hg_74
          refine z_pop d_Mo_keeper_79 rfl ?_
          refine z_aload_n 0 d_Mo_keeper_80 rfl rfl ?_
          refine z_get zc_Mo 6 (by decide) qF_Mo_16 hmo9 rfl d_Mo_keeper_81 ?_
          refine z_callF0 ((m_AL_size hs0 hst hsl9)) ym_AL_size zF_AL_size qM_Mo_94 zc_AL hsl9 d_Mo_keeper_84 rfl (Nat.le_of_ble_eq_true rfl) ⟨by decide, by decide⟩ ⟨Nat.le_of_ble_eq_true rfl, Nat.le_of_ble_eq_true rfl⟩ ?_
          refine z_iconst (v := (nI 1)) d_Mo_keeper_89 (by decide) ?_
          refine z_isub d_Mo_keeper_90 ?_
          exact z_iret rfl (by
                refine Or.inr (Or.inr ⟨hok, hk8, congrArg (fun q => some (Value.int q)) (nI_pred nk), _, _, hnw.1, mNw.rf.tr hnw.2.1 hF1 hM.ne0, ?_, fun r j hr h0 hn => ?_, ?_, hF1.tr hnw.2.2⟩)
                · exact (congrFun (rset_n (by decide)) 0).trans ((congrFun (rset_n (by omega)) 0).trans hT1)
                · rw [rset_n (by unfold zmo_ at hr; omega), rset_n hn]; exact hK1 r j hr h0
                · rw [rset_n (by omega), rset_s]; exact ⟨rfl, rfl, rfl, rfl⟩) (by first | decide | omega) (by first | decide | omega) d_Mo_keeper_91
        · skip
          refine z_aload_n 0 d_Mo_keeper_54 rfl rfl ?_
          refine z_iconst (v := 2) d_Mo_keeper_55 (by decide) ?_
          refine z_callV0 (m_Mo_no hs0 hst hM1.mo 2) ym_Mo_no qM_Mo_119 qI_Mo_no qV_Mo_Mo_no zc_Mo hM1.mo d_Mo_keeper_56 rfl (Nat.le_of_ble_eq_true rfl) ⟨by decide, by decide⟩ ⟨Nat.le_of_ble_eq_true rfl, Nat.le_of_ble_eq_true rfl⟩ ?_
          obtain ⟨V9, hM9, hK9, hF9, hT9⟩ := hM1.putT 2
          exact z_iret rfl (Or.inr (Or.inl ⟨hok, (nI_eq (by omega) (by decide)).mp (by first | exact c_51 | exact Decidable.not_not.mp c_51), rfl, V9, hM9, hT9, hK1.tr hK9, hF1.tr hF9⟩)) (by first | decide | omega) (by first | decide | omega) d_Mo_keeper_59
      · skip
        refine z_aload_n 0 d_Mo_keeper_34 rfl rfl ?_
        refine z_iconst (v := 1) d_Mo_keeper_35 (by decide) ?_
        refine z_callV0 (m_Mo_no hs0 hst hM1.mo 1) ym_Mo_no qM_Mo_119 qI_Mo_no qV_Mo_Mo_no zc_Mo hM1.mo d_Mo_keeper_36 rfl (Nat.le_of_ble_eq_true rfl) ⟨by decide, by decide⟩ ⟨Nat.le_of_ble_eq_true rfl, Nat.le_of_ble_eq_true rfl⟩ ?_
        obtain ⟨V9, hM9, hK9, hF9, hT9⟩ := hM1.putT 1
        exact z_iret rfl (Or.inl ⟨by unfold zkok; first | (rw [(zb_0 _).mp c_11]; rfl) | (rw [(zb_0 _).mp c_21, Bool.false_and, Bool.and_false]) | (rw [(zb_0 _).mp c_31, Bool.and_false, Bool.and_false]), rfl, V9, hM9, hT9, hK1.tr hK9, hF1.tr hF9⟩) (by first | decide | omega) (by first | decide | omega) d_Mo_keeper_39
