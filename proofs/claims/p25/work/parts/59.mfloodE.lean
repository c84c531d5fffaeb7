
/-- shares lost: keeper j's of secret s, where D tells -/
def mfl (V : Nat → Nat → Int32) (x : Int32) (s j : Nat) : Bool := decide (V (100 + j) 0 = x) && decide (V (300 + s) j ≠ -1)
def mFd (V V' : Nat → Nat → Int32) (ns : Nat) (x : Int32) (D : Nat → Nat → Bool) : Prop := (∀ r, ¬ (300 ≤ r ∧ r < 300 + ns) → ¬ (400 ≤ r ∧ r < 400 + ns) → V' r = V r) ∧ ∀ s, s < ns → ∀ j, ((D s j = true ∧ mfl V x s j = true) → V' (300 + s) j = -1 ∧ V' (400 + s) j = -1) ∧ (¬ (D s j = true ∧ mfl V x s j = true) → V' (300 + s) j = V (300 + s) j ∧ V' (400 + s) j = V (400 + s) j)
def mDn (nk i jj s j : Nat) : Bool := decide (j < nk) && (decide (s < i) || (decide (s = i) && decide (j < jj)))
def mgo (V : Nat → Nat → Int32) (x : Int32) (nk : Nat) : Nat → Nat
  | 0 => 0
  | s + 1 => mgo V x nk s + zcnt (mfl V x s) nk
section MFD
variable {V V2 : Nat → Nat → Int32} {ns nk i j : Nat} {x : Int32}
theorem mDn_z (s j : Nat) : mDn nk 0 0 s j = false := by
  unfold mDn
  rw [decide_eq_false (Nat.not_lt_zero s), decide_eq_false (Nat.not_lt_zero j), Bool.and_false, Bool.or_false, Bool.and_false]
theorem mDn_n (i s j : Nat) : mDn nk i nk s j = mDn nk (i + 1) 0 s j := by
  unfold mDn
  by_cases h : j < nk
  · rw [decide_eq_true h, Bool.and_true, decide_eq_false (Nat.not_lt_zero j), Bool.and_false, Bool.or_false, show decide (s < i + 1) = (decide (s < i) || decide (s = i)) from by rw [← Bool.decide_or]; exact decide_eq_decide.mpr (by omega)]
  · rw [decide_eq_false h, Bool.false_and, Bool.false_and]
theorem mDn_t (h : j < nk) {s q : Nat} : mDn nk i (j + 1) s q = true ↔ mDn nk i j s q = true ∨ (s = i ∧ q = j) := by
  unfold mDn
  simp only [Bool.and_eq_true, Bool.or_eq_true, decide_eq_true_eq]
  omega
theorem mDn_o (s : Nat) : mDn nk i j s j = true → s < i := by
  unfold mDn
  simp only [Bool.and_eq_true, Bool.or_eq_true, decide_eq_true_eq]
  omega
theorem mFd.z : mFd V V ns x (mDn nk 0 0) := ⟨fun _ _ _ => rfl, fun s hs j => ⟨fun h => (by rw [mDn_z] at h; cases h.1), fun _ => ⟨rfl, rfl⟩⟩⟩
theorem mFd.n (h : mFd V V2 ns x (mDn nk i nk)) : mFd V V2 ns x (mDn nk (i + 1) 0) := ⟨h.1, fun s hs j => by rw [← mDn_n]; exact h.2 s hs j⟩
theorem mFd.skip (h : mFd V V2 ns x (mDn nk i j)) (hj : j < nk) (hf : mfl V x i j = false) : mFd V V2 ns x (mDn nk i (j + 1)) := by
  refine ⟨h.1, fun s hs q => ⟨fun h2 => (h.2 s hs q).1 ⟨?_, h2.2⟩, fun h2 => (h.2 s hs q).2 (fun z => h2 ⟨(mDn_t hj).mpr (Or.inl z.1), z.2⟩)⟩⟩
  rcases (mDn_t hj).mp h2.1 with z | ⟨rfl, rfl⟩
  · exact z
  · rw [hf] at h2; cases h2.2
theorem mFd.o (h : mFd V V2 ns x (mDn nk i j)) (hi : i < ns) : V2 (300 + i) j = V (300 + i) j := ((h.2 i hi j).2 (fun q => absurd (mDn_o i q.1) (Nat.lt_irrefl i))).1
theorem mFd.k (h : mFd V V2 ns x (mDn nk i j)) (h6 : ns ≤ 6) {k : Nat} (hk : k < 8) : V2 (100 + k) = V (100 + k) := h.1 _ (by omega) (by omega)
theorem mFd.lose (h : mFd V V2 ns x (mDn nk i j)) (hj : j < nk) (hi : i < ns) (h6 : ns ≤ 6) (hf : mfl V x i j = true) {V5 : Nat → Nat → Int32} (h5 : V5 = rset V2 (300 + i) (upd (V2 (300 + i)) j (-1))) : mFd V (rset V5 (400 + i) (upd (V5 (400 + i)) j (-1))) ns x (mDn nk i (j + 1)) := by
  subst h5
  refine ⟨fun r h1 h2 => by rw [rset_n (by omega), rset_n (by omega)]; exact h.1 r h1 h2, fun s hs q => ?_⟩
  by_cases e : s = i
  · subst e
    rw [rset_n (show 300 + s ≠ 400 + s by omega), rset_s, rset_s, rset_n (show 400 + s ≠ 300 + s by omega)]
    by_cases e2 : q = j
    · subst e2
      rw [pk_us, pk_us]
      exact ⟨fun _ => ⟨rfl, rfl⟩, fun z => absurd ⟨(mDn_t hj).mpr (Or.inr ⟨rfl, rfl⟩), hf⟩ z⟩
    · rw [pk_un e2, pk_un e2]
      refine ⟨fun z => (h.2 s hs q).1 ⟨?_, z.2⟩, fun z => (h.2 s hs q).2 (fun y => z ⟨(mDn_t hj).mpr (Or.inl y.1), y.2⟩)⟩
      rcases (mDn_t hj).mp z.1 with y | ⟨-, y⟩
      · exact y
      · exact absurd y e2
  · rw [rset_n (show 300 + s ≠ 400 + i by omega), rset_n (show 300 + s ≠ 300 + i by omega), rset_n (show 400 + s ≠ 400 + i by omega), rset_n (show 400 + s ≠ 300 + i by omega)]
    refine ⟨fun z => (h.2 s hs q).1 ⟨?_, z.2⟩, fun z => (h.2 s hs q).2 (fun y => z ⟨(mDn_t hj).mpr (Or.inl y.1), y.2⟩)⟩
    rcases (mDn_t hj).mp z.1 with y | ⟨y, -⟩
    · exact y
    · exact absurd y e
end MFD

theorem d_Mo_flood_0 : decode c_Mo_flood 0 = .ok (.aload_n 0, 1) := by decide +kernel
theorem d_Mo_flood_1 : decode c_Mo_flood 1 = .ok (.iconst 0, 1) := by decide +kernel
theorem d_Mo_flood_2 : decode c_Mo_flood 2 = .ok (.putfield 36, 3) := by decide +kernel
theorem d_Mo_flood_5 : decode c_Mo_flood 5 = .ok (.iload_n 1, 1) := by decide +kernel
theorem d_Mo_flood_6 : decode c_Mo_flood 6 = .ok (.iconst 0, 1) := by decide +kernel
theorem d_Mo_flood_7 : decode c_Mo_flood 7 = .ok (.iconst 3, 1) := by decide +kernel
theorem d_Mo_flood_8 : decode c_Mo_flood 8 = .ok (.invokestatic 115, 3) := by decide +kernel
theorem d_Mo_flood_11 : decode c_Mo_flood 11 = .ok (.ifCond .ne 9, 3) := by decide +kernel
theorem d_Mo_flood_14 : decode c_Mo_flood 14 = .ok (.aload_n 0, 1) := by decide +kernel
theorem d_Mo_flood_15 : decode c_Mo_flood 15 = .ok (.iconst 1, 1) := by decide +kernel
theorem d_Mo_flood_16 : decode c_Mo_flood 16 = .ok (.invokevirtual 119, 3) := by decide +kernel
theorem d_Mo_flood_19 : decode c_Mo_flood 19 = .ok (.ireturn, 1) := by decide +kernel
theorem d_Mo_flood_20 : decode c_Mo_flood 20 = .ok (.iconst 0, 1) := by decide +kernel
theorem d_Mo_flood_21 : decode c_Mo_flood 21 = .ok (.istore_n 2, 1) := by decide +kernel
theorem d_Mo_flood_22 : decode c_Mo_flood 22 = .ok (.iconst 0, 1) := by decide +kernel
theorem d_Mo_flood_23 : decode c_Mo_flood 23 = .ok (.istore_n 3, 1) := by decide +kernel
theorem d_Mo_flood_24 : decode c_Mo_flood 24 = .ok (.iload_n 3, 1) := by decide +kernel
theorem d_Mo_flood_25 : decode c_Mo_flood 25 = .ok (.aload_n 0, 1) := by decide +kernel
theorem d_Mo_flood_26 : decode c_Mo_flood 26 = .ok (.getfield 20, 3) := by decide +kernel
theorem d_Mo_flood_29 : decode c_Mo_flood 29 = .ok (.invokeinterface 94 1, 5) := by decide +kernel
theorem d_Mo_flood_34 : decode c_Mo_flood 34 = .ok (.if_icmp .ge 104, 3) := by decide +kernel
theorem d_Mo_flood_37 : decode c_Mo_flood 37 = .ok (.iconst 0, 1) := by decide +kernel
theorem d_Mo_flood_38 : decode c_Mo_flood 38 = .ok (.istore 4, 2) := by decide +kernel
theorem d_Mo_flood_40 : decode c_Mo_flood 40 = .ok (.iload 4, 2) := by decide +kernel
theorem d_Mo_flood_42 : decode c_Mo_flood 42 = .ok (.aload_n 0, 1) := by decide +kernel
theorem d_Mo_flood_43 : decode c_Mo_flood 43 = .ok (.getfield 16, 3) := by decide +kernel
theorem d_Mo_flood_46 : decode c_Mo_flood 46 = .ok (.invokeinterface 94 1, 5) := by decide +kernel
theorem d_Mo_flood_51 : decode c_Mo_flood 51 = .ok (.if_icmp .ge 81, 3) := by decide +kernel
theorem d_Mo_flood_54 : decode c_Mo_flood 54 = .ok (.aload_n 0, 1) := by decide +kernel
theorem d_Mo_flood_55 : decode c_Mo_flood 55 = .ok (.getfield 20, 3) := by decide +kernel
theorem d_Mo_flood_58 : decode c_Mo_flood 58 = .ok (.iload_n 3, 1) := by decide +kernel
theorem d_Mo_flood_59 : decode c_Mo_flood 59 = .ok (.invokeinterface 51 2, 5) := by decide +kernel
theorem d_Mo_flood_64 : decode c_Mo_flood 64 = .ok (.checkcast 47, 3) := by decide +kernel
theorem d_Mo_flood_67 : decode c_Mo_flood 67 = .ok (.astore 5, 2) := by decide +kernel
theorem d_Mo_flood_69 : decode c_Mo_flood 69 = .ok (.aload_n 0, 1) := by decide +kernel
theorem d_Mo_flood_70 : decode c_Mo_flood 70 = .ok (.getfield 16, 3) := by decide +kernel
theorem d_Mo_flood_73 : decode c_Mo_flood 73 = .ok (.iload 4, 2) := by decide +kernel
theorem d_Mo_flood_75 : decode c_Mo_flood 75 = .ok (.invokeinterface 51 2, 5) := by decide +kernel
theorem d_Mo_flood_80 : decode c_Mo_flood 80 = .ok (.checkcast 57, 3) := by decide +kernel
theorem d_Mo_flood_83 : decode c_Mo_flood 83 = .ok (.getfield 96, 3) := by decide +kernel
theorem d_Mo_flood_86 : decode c_Mo_flood 86 = .ok (.iload_n 1, 1) := by decide +kernel
theorem d_Mo_flood_87 : decode c_Mo_flood 87 = .ok (.if_icmp .ne 39, 3) := by decide +kernel
theorem d_Mo_flood_90 : decode c_Mo_flood 90 = .ok (.aload 5, 2) := by decide +kernel
theorem d_Mo_flood_92 : decode c_Mo_flood 92 = .ok (.getfield 46, 3) := by decide +kernel
theorem d_Mo_flood_95 : decode c_Mo_flood 95 = .ok (.iload 4, 2) := by decide +kernel
theorem d_Mo_flood_97 : decode c_Mo_flood 97 = .ok (.iaload, 1) := by decide +kernel
theorem d_Mo_flood_98 : decode c_Mo_flood 98 = .ok (.iconst (-1), 1) := by decide +kernel
theorem d_Mo_flood_99 : decode c_Mo_flood 99 = .ok (.if_icmp .ne 6, 3) := by decide +kernel
theorem d_Mo_flood_102 : decode c_Mo_flood 102 = .ok (.goto 24, 3) := by decide +kernel
theorem d_Mo_flood_105 : decode c_Mo_flood 105 = .ok (.aload 5, 2) := by decide +kernel
theorem d_Mo_flood_107 : decode c_Mo_flood 107 = .ok (.getfield 46, 3) := by decide +kernel
theorem d_Mo_flood_110 : decode c_Mo_flood 110 = .ok (.iload 4, 2) := by decide +kernel
theorem d_Mo_flood_112 : decode c_Mo_flood 112 = .ok (.iconst (-1), 1) := by decide +kernel
theorem d_Mo_flood_113 : decode c_Mo_flood 113 = .ok (.iastore, 1) := by decide +kernel
theorem d_Mo_flood_114 : decode c_Mo_flood 114 = .ok (.aload 5, 2) := by decide +kernel
theorem d_Mo_flood_116 : decode c_Mo_flood 116 = .ok (.getfield 140, 3) := by decide +kernel
theorem d_Mo_flood_119 : decode c_Mo_flood 119 = .ok (.iload 4, 2) := by decide +kernel
theorem d_Mo_flood_121 : decode c_Mo_flood 121 = .ok (.iconst (-1), 1) := by decide +kernel
theorem d_Mo_flood_122 : decode c_Mo_flood 122 = .ok (.iastore, 1) := by decide +kernel
theorem d_Mo_flood_123 : decode c_Mo_flood 123 = .ok (.iinc 2 1, 3) := by decide +kernel
theorem d_Mo_flood_126 : decode c_Mo_flood 126 = .ok (.iinc 4 1, 3) := by decide +kernel
theorem d_Mo_flood_129 : decode c_Mo_flood 129 = .ok (.goto (-89), 3) := by decide +kernel
theorem d_Mo_flood_132 : decode c_Mo_flood 132 = .ok (.iinc 3 1, 3) := by decide +kernel
theorem d_Mo_flood_135 : decode c_Mo_flood 135 = .ok (.goto (-111), 3) := by decide +kernel
theorem d_Mo_flood_138 : decode c_Mo_flood 138 = .ok (.aload_n 0, 1) := by decide +kernel
theorem d_Mo_flood_139 : decode c_Mo_flood 139 = .ok (.iconst 2, 1) := by decide +kernel
theorem d_Mo_flood_140 : decode c_Mo_flood 140 = .ok (.iload_n 1, 1) := by decide +kernel
theorem d_Mo_flood_141 : decode c_Mo_flood 141 = .ok (.invokevirtual 143, 3) := by decide +kernel
theorem d_Mo_flood_144 : decode c_Mo_flood 144 = .ok (.iload_n 2, 1) := by decide +kernel
theorem d_Mo_flood_145 : decode c_Mo_flood 145 = .ok (.ireturn, 1) := by decide +kernel
set_option maxHeartbeats 4000000 in
set_option maxRecDepth 100000 in
theorem m_Mo_floodE {g0 : State} {d : zD} {l : Launch} {a0 : Array Value} (hs0 : zS0 d a0 g0) (hst : l.stackTraces = false) {G : zG} {B : Nat → Nat} {V : Nat → Nat → Int32} {nk ns ne ec : Nat} (hM : zM d B V nk ns ne ec G) (x : Int32) : zMet g0 d l y_Mo_flood c_Mo_flood 6 ((Option.some Jvm.ClassFile.FieldType.int)) 11 2 84 [.ref (B 0), .int x] (G) (fun r G1 => (zin x 0 3 = false ∧ mThr d B nk ns ne ec V G 1 r G1) ∨ (zin x 0 3 = true ∧ ∃ V1 V2 B' V' ne' ec', zKn V V1 ∧ V1 0 0 = 0 ∧ mFd V1 V2 ns x (mDn nk ns 0) ∧ mEn V2 V' ne ne' 2 x ∧ zM d B' V' nk ns ne' ec' G1 ∧ mNw B B' nk ns ne nk ns ne' G ∧ mFr B nk ns ne G G1 ∧ r = some (.int (nI (mgo V1 x nk ns))))) (zNo) := by
  have hnk : nk ≤ 8 := hM.2.1
  have hns : ns ≤ 6 := hM.2.2.1
  have hne : ne ≤ 64 := hM.2.2.2.1
  have hp2 : 2 ^ nk ≤ 256 := Nat.pow_le_pow_right (n := 2) (by decide) hnk
  refine z_entry hs0 hst (by decide) (Nat.le_of_ble_eq_true rfl) (fun p e s m args below meth c => ?_)
  refine z_aload_n 0 d_Mo_flood_0 rfl rfl ?_
  refine z_iconst (v := 0) d_Mo_flood_1 (by decide) ?_
  refine z_put zc_Mo 0 (by decide) qF_Mo_36 hM.mo rfl rfl rfl (Nat.le_of_ble_eq_true rfl) d_Mo_flood_2 ?_
  obtain ⟨V1, hM1, hK1, hF1, hT1⟩ := hM.putT 0
  refine z_iload_n 1 d_Mo_flood_5 rfl rfl ?_
  refine z_iconst (v := 0) d_Mo_flood_6 (by decide) ?_
  refine z_iconst (v := 3) d_Mo_flood_7 (by decide) ?_
  refine z_callS0 (m_Mo_in hs0 hst x 0 _) ym_Mo_in qM_Mo_115 qS_Mo_in d_Mo_flood_8 rfl (Nat.le_of_ble_eq_true rfl) ⟨by decide, by decide⟩ ⟨Nat.le_of_ble_eq_true rfl, Nat.le_of_ble_eq_true rfl⟩ ?_
  refine z_if_ne 20 d_Mo_flood_11 (by decide) (fun c_11 => ?_) (fun c_11 => ?_)
  · skip
    refine z_iconst (v := (nI 0)) d_Mo_flood_20 (by decide) ?_
    refine z_istore_n (L' := [(2, _), (0, _), (1, _)]) d_Mo_flood_21 rfl (by decide) rfl ?_
    refine z_iconst (v := (nI 0)) d_Mo_flood_22 (by decide) ?_
    refine z_istore_n (L' := [(3, _), (2, _), (0, _), (1, _)]) d_Mo_flood_23 rfl (by decide) rfl ?_
    have key_24 : ∀ (n : Nat) (i : Nat) (G2 : zG) (V2 : Nat → Nat → Int32), ns - i < n → (i ≤ ns) → (zM d B V2 nk ns ne ec G2) → (mFd V1 V2 ns x (mDn nk i 0)) → (mFr B nk ns ne G G2) → Z g0 d y_Mo_flood c_Mo_flood 6 ((Option.some Jvm.ClassFile.FieldType.int)) [] p l e (zR 11 2 84) s m args below meth c (vx_MQ below (zQc g0 d (fun r G1 => (zin x 0 3 = false ∧ mThr d B nk ns ne ec V G 1 r G1) ∨ (zin x 0 3 = true ∧ ∃ V1 V2 B' V' ne' ec', zKn V V1 ∧ V1 0 0 = 0 ∧ mFd V1 V2 ns x (mDn nk ns 0) ∧ mEn V2 V' ne ne' 2 x ∧ zM d B' V' nk ns ne' ec' G1 ∧ mNw B B' nk ns ne nk ns ne' G ∧ mFr B nk ns ne G G1 ∧ r = some (.int (nI (mgo V1 x nk ns)))))) (zXc g0 d (zNo)) args s 2 84 (zA g0)) 0 0 (G2) [(3, .int (nI i)), (2, .int (nI (mgo V1 x nk i))), (0, .ref (B 0)), (1, .int x)] [] 24 := by
      intro n
      induction n with
      | zero => intro i G2 V2 h0; exact absurd h0 (Nat.not_lt_zero _)
      | succ n ih_24 =>
        intro i G2 V2 hm_24 hi hM2 hK2 hF2
        refine z_iload_n 0 d_Mo_flood_24 rfl rfl ?_
        refine z_aload_n 2 d_Mo_flood_25 rfl rfl ?_
        refine z_get zc_Mo 7 (by decide) qF_Mo_20 hM2.mo rfl d_Mo_flood_26 ?_
        refine z_callF0 (m_AL_size hs0 hst hM2.sl) ym_AL_size zF_AL_size qM_Mo_94 zc_AL hM2.sl d_Mo_flood_29 rfl (Nat.le_of_ble_eq_true rfl) ⟨by decide, by decide⟩ ⟨Nat.le_of_ble_eq_true rfl, Nat.le_of_ble_eq_true rfl⟩ ?_
        refine z_icmp_ge 138 d_Mo_flood_34 (by decide) (fun c_34 => ?_) (fun c_34 => ?_)
        · skip
          obtain rfl : i = ns := by
            have := (nI_leI (a := ns) (b := i) (by omega) (by omega)).mp c_34
            omega
          refine z_aload_n 2 d_Mo_flood_138 rfl rfl ?_
          refine z_iconst (v := 2) d_Mo_flood_139 (by decide) ?_
          refine z_iload_n 3 d_Mo_flood_140 rfl rfl ?_
          refine z_callVp1 ((m_Mo_writeE hs0 hst hM2 _ _)) ym_Mo_write qM_Mo_143 qI_Mo_write qV_Mo_Mo_write zc_Mo hM2.mo d_Mo_flood_141 rfl (Nat.le_of_ble_eq_true rfl) ⟨by decide, by decide⟩ ⟨Nat.le_of_ble_eq_true rfl, Nat.le_of_ble_eq_true rfl⟩ (fun r_141 G_141 hp_141 => ?_)
          obtain ⟨hr_141, B7, V7, ne7, ec7, hM7, hK7, hN7, hF7, hB7⟩ := hp_141
          obtain rfl : r_141 = none := hr_141
          refine z_iload_n 1 d_Mo_flood_144 rfl rfl ?_
          exact z_iret rfl (Or.inr ⟨(zb_n0 _).mp c_11, V1, V2, B7, V7, ne7, ec7, hK1, hT1, hK2, hK7, hM7, mNw.rf.tr hN7 hF2 hM.ne0, hF2.tr hF7, rfl⟩) (by first | decide | omega) (by first | decide | omega) d_Mo_flood_145
        · skip
          have hi6 : i < ns := Nat.lt_of_not_le fun q => c_34 (nI_le q (by omega))
          refine z_iconst (v := (nI 0)) d_Mo_flood_37 (by decide) ?_
          refine z_istore (L' := [(4, _), (3, _), (2, _), (0, _), (1, _)]) d_Mo_flood_38 (by decide) rfl ?_
          have key_40 : ∀ (n : Nat) (j : Nat) (G4 : zG) (V4 : Nat → Nat → Int32), nk - j < n → (j ≤ nk) → (zM d B V4 nk ns ne ec G4) → (mFd V1 V4 ns x (mDn nk i j)) → (mFr B nk ns ne G G4) → Z g0 d y_Mo_flood c_Mo_flood 6 ((Option.some Jvm.ClassFile.FieldType.int)) [] p l e (zR 11 2 84) s m args below meth c (vx_MQ below (zQc g0 d (fun r G1 => (zin x 0 3 = false ∧ mThr d B nk ns ne ec V G 1 r G1) ∨ (zin x 0 3 = true ∧ ∃ V1 V2 B' V' ne' ec', zKn V V1 ∧ V1 0 0 = 0 ∧ mFd V1 V2 ns x (mDn nk ns 0) ∧ mEn V2 V' ne ne' 2 x ∧ zM d B' V' nk ns ne' ec' G1 ∧ mNw B B' nk ns ne nk ns ne' G ∧ mFr B nk ns ne G G1 ∧ r = some (.int (nI (mgo V1 x nk ns)))))) (zXc g0 d (zNo)) args s 2 84 (zA g0)) 0 0 (G4) [(4, .int (nI j)), (3, .int (nI i)), (2, .int (nI (mgo V1 x nk i + zcnt (mfl V1 x i) j))), (0, .ref (B 0)), (1, .int x)] [] 40 := by
            intro n
            induction n with
            | zero => intro j G4 V4 h0; exact absurd h0 (Nat.not_lt_zero _)
            | succ n ih_40 =>
              intro j G4 V4 hm_40 hj hM4 hK4 hF4
              refine z_iload 0 d_Mo_flood_40 rfl ?_
              refine z_aload_n 3 d_Mo_flood_42 rfl rfl ?_
              refine z_get zc_Mo 6 (by decide) qF_Mo_16 hM4.mo rfl d_Mo_flood_43 ?_
              refine z_callF0 (m_AL_size hs0 hst hM4.kl) ym_AL_size zF_AL_size qM_Mo_94 zc_AL hM4.kl d_Mo_flood_46 rfl (Nat.le_of_ble_eq_true rfl) ⟨by decide, by decide⟩ ⟨Nat.le_of_ble_eq_true rfl, Nat.le_of_ble_eq_true rfl⟩ ?_
              refine z_icmp_ge 132 d_Mo_flood_51 (by decide) (fun c_51 => ?_) (fun c_51 => ?_)
              · skip
                obtain rfl : j = nk := by
                  have := (nI_leI (a := nk) (b := j) (by omega) (by omega)).mp c_51
                  omega
                refine z_iinc (v := nI (i + 1)) (L' := [(3, _), (4, _), (2, _), (0, _), (1, _)]) 1 d_Mo_flood_132 rfl (nI_1 i) (by decide) rfl ?_
                refine z_goto 24 d_Mo_flood_135 (by decide) ?_
                refine z_sub (L' := [(3, _), (2, _), (0, _), (1, _)]) [0, 2, 3, 4] rfl ?_
                exact ih_24 (i + 1) _ _ (by omega) (by omega) hM4 hK4.n hF4
              · skip
                have hj6 : j < nk := Nat.lt_of_not_le fun q => c_51 (nI_le q (by omega))
                refine z_aload_n 3 d_Mo_flood_54 rfl rfl ?_
                refine z_get zc_Mo 7 (by decide) qF_Mo_20 hM4.mo rfl d_Mo_flood_55 ?_
                refine z_iload_n 1 d_Mo_flood_58 rfl rfl ?_
                refine z_callF0 (m_AL_get hs0 hst (hM4.sA hi6) hi6 (if_pos hi6)) ym_AL_get zF_AL_get qM_Mo_51 zc_AL (hM4.sA hi6).1 d_Mo_flood_59 rfl (Nat.le_of_ble_eq_true rfl) ⟨by decide, by decide⟩ ⟨Nat.le_of_ble_eq_true rfl, Nat.le_of_ble_eq_true rfl⟩ ?_
                refine z_castS zc_MS qK_Mo_47 (hM4.se hi6).1 d_Mo_flood_64 ?_
                refine z_astore (L' := [(5, _), (4, _), (3, _), (2, _), (0, _), (1, _)]) d_Mo_flood_67 (by decide) rfl ?_
                refine z_aload_n 4 d_Mo_flood_69 rfl rfl ?_
                refine z_get zc_Mo 6 (by decide) qF_Mo_16 hM4.mo rfl d_Mo_flood_70 ?_
                refine z_iload 1 d_Mo_flood_73 rfl ?_
                refine z_callF0 (m_AL_get hs0 hst (hM4.kA hj6) hj6 (if_pos hj6)) ym_AL_get zF_AL_get qM_Mo_51 zc_AL (hM4.kA hj6).1 d_Mo_flood_75 rfl (Nat.le_of_ble_eq_true rfl) ⟨by decide, by decide⟩ ⟨Nat.le_of_ble_eq_true rfl, Nat.le_of_ble_eq_true rfl⟩ ?_
                refine z_castS zc_MK qK_Mo_57 (hM4.ke hj6) d_Mo_flood_80 ?_
                refine z_get zc_MK 0 (by decide) qF_Mo_96 (hM4.ke hj6) rfl d_Mo_flood_83 ?_
                refine z_iload_n 5 d_Mo_flood_86 rfl rfl ?_
                refine z_icmp_ne 126 d_Mo_flood_87 (by decide) (fun c_87 => ?_) (fun c_87 => ?_)
                · skip
                  have hf2 : mfl V1 x i j = false := by
                    unfold mfl
                    rw [← hK4.k hns (k := j) (by omega), decide_eq_false c_87, Bool.false_and]
                  rw [← zcnt_skip (f := mfl V1 x i) hf2]
                  refine z_iinc (v := nI (j + 1)) (L' := [(4, _), (5, _), (3, _), (2, _), (0, _), (1, _)]) 1 d_Mo_flood_126 rfl (nI_1 j) (by decide) rfl ?_
                  refine z_goto 40 d_Mo_flood_129 (by decide) ?_
                  refine z_sub (L' := [(4, _), (3, _), (2, _), (0, _), (1, _)]) [0, 2, 3, 4, 5] rfl ?_
                  first
                    | exact ih_40 (j + 1) _ _ (by omega) (by omega) hM6 (hK4.lose hj6 hi6 hns hf3 hV5) ((hF4.tr hF5).tr hF6)
                    | exact ih_40 (j + 1) _ _ (by omega) (by omega) hM4 (hK4.skip hj6 hf2) hF4
                · skip
                  refine z_aload 0 d_Mo_flood_90 rfl ?_
                  refine z_get zc_MS 6 (by decide) qF_Mo_46 (hM4.se hi6).1 rfl d_Mo_flood_92 ?_
                  refine z_iload 1 d_Mo_flood_95 rfl ?_
                  refine z_ialdN (hM4.se hi6).2.1 (show j < 8 by omega) (by decide) d_Mo_flood_97 ?_
                  refine z_iconst (v := (-1)) d_Mo_flood_98 (by decide) ?_
                  refine z_icmp_ne 105 d_Mo_flood_99 (by decide) (fun c_99 => ?_) (fun c_99 => ?_)
                  · skip
                    have hf3 : mfl V1 x i j = true := by
                      unfold mfl
                      rw [← hK4.k hns (k := j) (by omega), ← hK4.o hi6, decide_eq_true (p := V4 (100 + j) 0 = x) c_87, decide_eq_true (p := V4 (300 + i) j ≠ -1) c_99]
                      rfl
                    refine z_aload 0 d_Mo_flood_105 rfl ?_
                    refine z_get zc_MS 6 (by decide) qF_Mo_46 (hM4.se hi6).1 rfl d_Mo_flood_107 ?_
                    refine z_iload 1 d_Mo_flood_110 rfl ?_
                    refine z_iconst (v := (-1)) d_Mo_flood_112 (by decide) ?_
                    refine z_iastN (hM4.se hi6).2.1 (show j < 8 by omega) (by decide) d_Mo_flood_113 ?_
                    obtain ⟨hM5, hF5⟩ := hM4.putshE hi6 hj6 (-1)
                    obtain ⟨V5, hV5⟩ : ∃ v, v = rset V4 (300 + i) (upd (V4 (300 + i)) j (-1)) := ⟨_, rfl⟩
                    rw [← hV5] at hM5
                    refine z_aload 0 d_Mo_flood_114 rfl ?_
                    refine z_get zc_MS 7 (by decide) qF_Mo_140 (hM5.se hi6).1 rfl d_Mo_flood_116 ?_
                    refine z_iload 1 d_Mo_flood_119 rfl ?_
                    refine z_iconst (v := (-1)) d_Mo_flood_121 (by decide) ?_
                    refine z_iastN (hM5.se hi6).2.2.1 (show j < 8 by omega) (by decide) d_Mo_flood_122 ?_
                    obtain ⟨hM6, hF6⟩ := hM5.putepE hi6 (upd (V5 (400 + i)) j (-1))
                    refine z_iinc (v := nI (mgo V1 x nk i + zcnt (mfl V1 x i) (j + 1))) (L' := [(2, _), (5, _), (4, _), (3, _), (0, _), (1, _)]) 3 d_Mo_flood_123 rfl (by rw [zcnt_step hf3, ← Nat.add_assoc]; exact nI_1 _) (by decide) rfl ?_
                    refine z_iinc (v := nI (j + 1)) (L' := [(4, _), (2, _), (5, _), (3, _), (0, _), (1, _)]) 2 d_Mo_flood_126 rfl (nI_1 j) (by decide) rfl ?_
                    refine z_goto 40 d_Mo_flood_129 (by decide) ?_
                    refine z_sub (L' := [(4, _), (3, _), (2, _), (0, _), (1, _)]) [0, 3, 1, 4, 5] rfl ?_
                    first
                      | exact ih_40 (j + 1) _ _ (by omega) (by omega) hM6 (hK4.lose hj6 hi6 hns hf3 hV5) ((hF4.tr hF5).tr hF6)
                      | exact ih_40 (j + 1) _ _ (by omega) (by omega) hM4 (hK4.skip hj6 hf2) hF4
                  · skip
                    have hf2 : mfl V1 x i j = false := by
                      unfold mfl
                      rw [← hK4.o hi6, decide_eq_false (p := V4 (300 + i) j ≠ -1) (fun q => q c_99), Bool.and_false]
                    rw [← zcnt_skip (f := mfl V1 x i) hf2]
                    refine z_goto 126 d_Mo_flood_102 (by decide) ?_
                    refine z_iinc (v := nI (j + 1)) (L' := [(4, _), (5, _), (3, _), (2, _), (0, _), (1, _)]) 1 d_Mo_flood_126 rfl (nI_1 j) (by decide) rfl ?_
                    refine z_goto 40 d_Mo_flood_129 (by decide) ?_
                    refine z_sub (L' := [(4, _), (3, _), (2, _), (0, _), (1, _)]) [0, 2, 3, 4, 5] rfl ?_
                    first
                      | exact ih_40 (j + 1) _ _ (by omega) (by omega) hM6 (hK4.lose hj6 hi6 hns hf3 hV5) ((hF4.tr hF5).tr hF6)
                      | exact ih_40 (j + 1) _ _ (by omega) (by omega) hM4 (hK4.skip hj6 hf2) hF4
          exact key_40 (nk + 1) 0 _ _ (by omega) (by omega) hM2 hK2 hF2
    exact key_24 (ns + 1) 0 _ _ (by omega) (by omega) hM1 mFd.z hF1
  · skip
    refine z_aload_n 0 d_Mo_flood_14 rfl rfl ?_
    refine z_iconst (v := 1) d_Mo_flood_15 (by decide) ?_
    refine z_callV0 (m_Mo_no hs0 hst hM1.mo 1) ym_Mo_no qM_Mo_119 qI_Mo_no qV_Mo_Mo_no zc_Mo hM1.mo d_Mo_flood_16 rfl (Nat.le_of_ble_eq_true rfl) ⟨by decide, by decide⟩ ⟨Nat.le_of_ble_eq_true rfl, Nat.le_of_ble_eq_true rfl⟩ ?_
    obtain ⟨V9, hM9, hK9, hF9, hT9⟩ := hM1.putT 1
    exact z_iret rfl (Or.inl ⟨(zb_0 _).mp c_11, ⟨rfl, V9, hM9, hT9, hK1.tr hK9, hF1.tr hF9⟩⟩) (by first | decide | omega) (by first | decide | omega) d_Mo_flood_19

/-- luck alone is another -/
def mLk (V V' : Nat → Nat → Int32) (l : Int32) : Prop := (V' 0 0 = V 0 0 ∧ V' 0 1 = l ∧ V' 0 2 = V 0 2 ∧ V' 0 3 = V 0 3 ∧ V' 0 4 = V 0 4 ∧ V' 0 5 = V 0 5) ∧ ∀ r, r ≠ 0 → V' r = V r
theorem mLk.z {V : Nat → Nat → Int32} {od : Int32} : mLk V V (zlkn od (V 0 1) 1) := ⟨⟨rfl, (if_neg (fun q => q.1 rfl)).symm, rfl, rfl, rfl, rfl⟩, fun _ _ => rfl⟩
theorem mLk.s {V V2 : Nat → Nat → Int32} {t i : Nat} {x : Int32} (h : mLk V V2 (zlkn (nI t) x i)) (h1 : 1 ≤ i) (hi : i < t) (ht : t ≤ 4) : mLk V (rset V2 0 (zm6 (V2 0 0) (zlk (V2 0 1)) (V2 0 2) (V2 0 3) (V2 0 4) (V2 0 5))) (zlkn (nI t) x (i + 1)) := by
  obtain ⟨⟨a, b, c, e, f, g⟩, o⟩ := h
  refine ⟨⟨(congrFun rset_s 0).trans a, (congrFun rset_s 1).trans ?_, (congrFun rset_s 2).trans c, (congrFun rset_s 3).trans e, (congrFun rset_s 4).trans f, (congrFun rset_s 5).trans g⟩, fun r hr => by rw [rset_n hr]; exact o r hr⟩
  show zlk (V2 0 1) = zlkn (nI t) x (i + 1)
  rw [b]
  exact (if_pos ⟨by omega, nI_lt hi (by omega)⟩).symm
theorem zcvn_i {fi x : Int32} {t i : Nat} (h1 : 1 ≤ i) (hi : i < t) (ht : t ≤ 4) : zcvn fi (nI t) x i = zdr (zlk (zlkn (nI t) x i)) := (if_neg (by omega)).trans (if_pos (nI_lt hi (by omega)))

theorem d_Mo_fresh_0 : decode c_Mo_fresh 0 = .ok (.aload_n 0, 1) := by decide +kernel
theorem d_Mo_fresh_1 : decode c_Mo_fresh 1 = .ok (.iconst 0, 1) := by decide +kernel
theorem d_Mo_fresh_2 : decode c_Mo_fresh 2 = .ok (.putfield 36, 3) := by decide +kernel
theorem d_Mo_fresh_5 : decode c_Mo_fresh 5 = .ok (.aload_n 0, 1) := by decide +kernel
theorem d_Mo_fresh_6 : decode c_Mo_fresh 6 = .ok (.iload_n 1, 1) := by decide +kernel
theorem d_Mo_fresh_7 : decode c_Mo_fresh 7 = .ok (.invokevirtual 147, 3) := by decide +kernel
theorem d_Mo_fresh_10 : decode c_Mo_fresh 10 = .ok (.ifCond .ne 9, 3) := by decide +kernel
theorem d_Mo_fresh_13 : decode c_Mo_fresh 13 = .ok (.aload_n 0, 1) := by decide +kernel
theorem d_Mo_fresh_14 : decode c_Mo_fresh 14 = .ok (.iconst 1, 1) := by decide +kernel
theorem d_Mo_fresh_15 : decode c_Mo_fresh 15 = .ok (.invokevirtual 119, 3) := by decide +kernel
theorem d_Mo_fresh_18 : decode c_Mo_fresh 18 = .ok (.ireturn, 1) := by decide +kernel
theorem d_Mo_fresh_19 : decode c_Mo_fresh 19 = .ok (.aload_n 0, 1) := by decide +kernel
theorem d_Mo_fresh_20 : decode c_Mo_fresh 20 = .ok (.iload_n 2, 1) := by decide +kernel
theorem d_Mo_fresh_21 : decode c_Mo_fresh 21 = .ok (.invokevirtual 129, 3) := by decide +kernel
theorem d_Mo_fresh_24 : decode c_Mo_fresh 24 = .ok (.ifCond .ne 9, 3) := by decide +kernel
theorem d_Mo_fresh_27 : decode c_Mo_fresh 27 = .ok (.aload_n 0, 1) := by decide +kernel
theorem d_Mo_fresh_28 : decode c_Mo_fresh 28 = .ok (.iconst 2, 1) := by decide +kernel
theorem d_Mo_fresh_29 : decode c_Mo_fresh 29 = .ok (.invokevirtual 119, 3) := by decide +kernel
theorem d_Mo_fresh_32 : decode c_Mo_fresh 32 = .ok (.ireturn, 1) := by decide +kernel
theorem d_Mo_fresh_33 : decode c_Mo_fresh 33 = .ok (.aload_n 0, 1) := by decide +kernel
theorem d_Mo_fresh_34 : decode c_Mo_fresh 34 = .ok (.getfield 20, 3) := by decide +kernel
theorem d_Mo_fresh_37 : decode c_Mo_fresh 37 = .ok (.iload_n 1, 1) := by decide +kernel
theorem d_Mo_fresh_38 : decode c_Mo_fresh 38 = .ok (.invokeinterface 51 2, 5) := by decide +kernel
theorem d_Mo_fresh_43 : decode c_Mo_fresh 43 = .ok (.checkcast 47, 3) := by decide +kernel
theorem d_Mo_fresh_46 : decode c_Mo_fresh 46 = .ok (.astore_n 3, 1) := by decide +kernel
theorem d_Mo_fresh_47 : decode c_Mo_fresh 47 = .ok (.aload_n 0, 1) := by decide +kernel
theorem d_Mo_fresh_48 : decode c_Mo_fresh 48 = .ok (.aload_n 3, 1) := by decide +kernel
theorem d_Mo_fresh_49 : decode c_Mo_fresh 49 = .ok (.iload_n 2, 1) := by decide +kernel
theorem d_Mo_fresh_50 : decode c_Mo_fresh 50 = .ok (.invokevirtual 150, 3) := by decide +kernel
theorem d_Mo_fresh_53 : decode c_Mo_fresh 53 = .ok (.istore 4, 2) := by decide +kernel
theorem d_Mo_fresh_55 : decode c_Mo_fresh 55 = .ok (.iload 4, 2) := by decide +kernel
theorem d_Mo_fresh_57 : decode c_Mo_fresh 57 = .ok (.invokestatic 66, 3) := by decide +kernel
theorem d_Mo_fresh_60 : decode c_Mo_fresh 60 = .ok (.aload_n 3, 1) := by decide +kernel
theorem d_Mo_fresh_61 : decode c_Mo_fresh 61 = .ok (.getfield 69, 3) := by decide +kernel
theorem d_Mo_fresh_64 : decode c_Mo_fresh 64 = .ok (.if_icmp .ge 9, 3) := by decide +kernel
theorem d_Mo_fresh_67 : decode c_Mo_fresh 67 = .ok (.aload_n 0, 1) := by decide +kernel
theorem d_Mo_fresh_68 : decode c_Mo_fresh 68 = .ok (.iconst 3, 1) := by decide +kernel
theorem d_Mo_fresh_69 : decode c_Mo_fresh 69 = .ok (.invokevirtual 119, 3) := by decide +kernel
theorem d_Mo_fresh_72 : decode c_Mo_fresh 72 = .ok (.ireturn, 1) := by decide +kernel
theorem d_Mo_fresh_73 : decode c_Mo_fresh 73 = .ok (.aload_n 3, 1) := by decide +kernel
theorem d_Mo_fresh_74 : decode c_Mo_fresh 74 = .ok (.getfield 69, 3) := by decide +kernel
theorem d_Mo_fresh_77 : decode c_Mo_fresh 77 = .ok (.newarray .int, 2) := by decide +kernel
theorem d_Mo_fresh_79 : decode c_Mo_fresh 79 = .ok (.astore 5, 2) := by decide +kernel
theorem d_Mo_fresh_81 : decode c_Mo_fresh 81 = .ok (.iconst 1, 1) := by decide +kernel
theorem d_Mo_fresh_82 : decode c_Mo_fresh 82 = .ok (.istore 6, 2) := by decide +kernel
theorem d_Mo_fresh_84 : decode c_Mo_fresh 84 = .ok (.iload 6, 2) := by decide +kernel
theorem d_Mo_fresh_86 : decode c_Mo_fresh 86 = .ok (.aload_n 3, 1) := by decide +kernel
theorem d_Mo_fresh_87 : decode c_Mo_fresh 87 = .ok (.getfield 69, 3) := by decide +kernel
theorem d_Mo_fresh_90 : decode c_Mo_fresh 90 = .ok (.if_icmp .ge 18, 3) := by decide +kernel
theorem d_Mo_fresh_93 : decode c_Mo_fresh 93 = .ok (.aload 5, 2) := by decide +kernel
theorem d_Mo_fresh_95 : decode c_Mo_fresh 95 = .ok (.iload 6, 2) := by decide +kernel
theorem d_Mo_fresh_97 : decode c_Mo_fresh 97 = .ok (.aload_n 0, 1) := by decide +kernel
theorem d_Mo_fresh_98 : decode c_Mo_fresh 98 = .ok (.invokevirtual 133, 3) := by decide +kernel
theorem d_Mo_fresh_101 : decode c_Mo_fresh 101 = .ok (.iastore, 1) := by decide +kernel
theorem d_Mo_fresh_102 : decode c_Mo_fresh 102 = .ok (.iinc 6 1, 3) := by decide +kernel
theorem d_Mo_fresh_105 : decode c_Mo_fresh 105 = .ok (.goto (-21), 3) := by decide +kernel
theorem d_Mo_fresh_108 : decode c_Mo_fresh 108 = .ok (.aload_n 3, 1) := by decide +kernel
theorem d_Mo_fresh_109 : decode c_Mo_fresh 109 = .ok (.dup, 1) := by decide +kernel
theorem d_Mo_fresh_110 : decode c_Mo_fresh 110 = .ok (.getfield 153, 3) := by decide +kernel
theorem d_Mo_fresh_113 : decode c_Mo_fresh 113 = .ok (.iconst 1, 1) := by decide +kernel
theorem d_Mo_fresh_114 : decode c_Mo_fresh 114 = .ok (.iadd, 1) := by decide +kernel
theorem d_Mo_fresh_115 : decode c_Mo_fresh 115 = .ok (.putfield 153, 3) := by decide +kernel
theorem d_Mo_fresh_118 : decode c_Mo_fresh 118 = .ok (.iconst 0, 1) := by decide +kernel
theorem d_Mo_fresh_119 : decode c_Mo_fresh 119 = .ok (.istore 6, 2) := by decide +kernel
theorem d_Mo_fresh_121 : decode c_Mo_fresh 121 = .ok (.iload 6, 2) := by decide +kernel
theorem d_Mo_fresh_123 : decode c_Mo_fresh 123 = .ok (.bipush 8, 2) := by decide +kernel
theorem d_Mo_fresh_125 : decode c_Mo_fresh 125 = .ok (.if_icmp .ge 60, 3) := by decide +kernel
theorem d_Mo_fresh_128 : decode c_Mo_fresh 128 = .ok (.iload 4, 2) := by decide +kernel
theorem d_Mo_fresh_130 : decode c_Mo_fresh 130 = .ok (.iload 6, 2) := by decide +kernel
theorem d_Mo_fresh_132 : decode c_Mo_fresh 132 = .ok (.invokestatic 76, 3) := by decide +kernel
theorem d_Mo_fresh_135 : decode c_Mo_fresh 135 = .ok (.ifCond .ne 6, 3) := by decide +kernel
theorem d_Mo_fresh_138 : decode c_Mo_fresh 138 = .ok (.goto 41, 3) := by decide +kernel
theorem d_Mo_fresh_141 : decode c_Mo_fresh 141 = .ok (.aload_n 3, 1) := by decide +kernel
theorem d_Mo_fresh_142 : decode c_Mo_fresh 142 = .ok (.getfield 46, 3) := by decide +kernel
theorem d_Mo_fresh_145 : decode c_Mo_fresh 145 = .ok (.iload 6, 2) := by decide +kernel
theorem d_Mo_fresh_147 : decode c_Mo_fresh 147 = .ok (.aload_n 3, 1) := by decide +kernel
theorem d_Mo_fresh_148 : decode c_Mo_fresh 148 = .ok (.getfield 46, 3) := by decide +kernel
theorem d_Mo_fresh_151 : decode c_Mo_fresh 151 = .ok (.iload 6, 2) := by decide +kernel
theorem d_Mo_fresh_153 : decode c_Mo_fresh 153 = .ok (.iaload, 1) := by decide +kernel
theorem d_Mo_fresh_154 : decode c_Mo_fresh 154 = .ok (.aload 5, 2) := by decide +kernel
theorem d_Mo_fresh_156 : decode c_Mo_fresh 156 = .ok (.iload 6, 2) := by decide +kernel
theorem d_Mo_fresh_158 : decode c_Mo_fresh 158 = .ok (.iconst 1, 1) := by decide +kernel
theorem d_Mo_fresh_159 : decode c_Mo_fresh 159 = .ok (.iadd, 1) := by decide +kernel
theorem d_Mo_fresh_160 : decode c_Mo_fresh 160 = .ok (.invokestatic 136, 3) := by decide +kernel
theorem d_Mo_fresh_163 : decode c_Mo_fresh 163 = .ok (.iadd, 1) := by decide +kernel
theorem d_Mo_fresh_164 : decode c_Mo_fresh 164 = .ok (.bipush 97, 2) := by decide +kernel
theorem d_Mo_fresh_166 : decode c_Mo_fresh 166 = .ok (.irem, 1) := by decide +kernel
theorem d_Mo_fresh_167 : decode c_Mo_fresh 167 = .ok (.iastore, 1) := by decide +kernel
theorem d_Mo_fresh_168 : decode c_Mo_fresh 168 = .ok (.aload_n 3, 1) := by decide +kernel
theorem d_Mo_fresh_169 : decode c_Mo_fresh 169 = .ok (.getfield 140, 3) := by decide +kernel
theorem d_Mo_fresh_172 : decode c_Mo_fresh 172 = .ok (.iload 6, 2) := by decide +kernel
theorem d_Mo_fresh_174 : decode c_Mo_fresh 174 = .ok (.aload_n 3, 1) := by decide +kernel
theorem d_Mo_fresh_175 : decode c_Mo_fresh 175 = .ok (.getfield 153, 3) := by decide +kernel
theorem d_Mo_fresh_178 : decode c_Mo_fresh 178 = .ok (.iastore, 1) := by decide +kernel
theorem d_Mo_fresh_179 : decode c_Mo_fresh 179 = .ok (.iinc 6 1, 3) := by decide +kernel
theorem d_Mo_fresh_182 : decode c_Mo_fresh 182 = .ok (.goto (-61), 3) := by decide +kernel
theorem d_Mo_fresh_185 : decode c_Mo_fresh 185 = .ok (.aload_n 0, 1) := by decide +kernel
theorem d_Mo_fresh_186 : decode c_Mo_fresh 186 = .ok (.iconst 1, 1) := by decide +kernel
theorem d_Mo_fresh_187 : decode c_Mo_fresh 187 = .ok (.iload_n 1, 1) := by decide +kernel
theorem d_Mo_fresh_188 : decode c_Mo_fresh 188 = .ok (.invokevirtual 143, 3) := by decide +kernel
theorem d_Mo_fresh_191 : decode c_Mo_fresh 191 = .ok (.aload_n 3, 1) := by decide +kernel
theorem d_Mo_fresh_192 : decode c_Mo_fresh 192 = .ok (.invokevirtual 156, 3) := by decide +kernel
theorem d_Mo_fresh_195 : decode c_Mo_fresh 195 = .ok (.invokestatic 66, 3) := by decide +kernel
theorem d_Mo_fresh_198 : decode c_Mo_fresh 198 = .ok (.ireturn, 1) := by decide +kernel
set_option maxHeartbeats 4000000 in
set_option maxRecDepth 100000 in
theorem m_Mo_freshE {g0 : State} {d : zD} {l : Launch} {a0 : Array Value} (hs0 : zS0 d a0 g0) (hst : l.stackTraces = false) {G : zG} {B : Nat → Nat} {V : Nat → Nat → Int32} {nk ns ne ec : Nat} (hM : zM d B V nk ns ne ec G) (x set : Int32) : zMet g0 d l y_Mo_fresh c_Mo_fresh 7 ((Option.some Jvm.ClassFile.FieldType.int)) 11 3 88 [.ref (B 0), .int x, .int set] (G) (fun r G1 => (zin x 0 (nI ns - 1) = false ∧ mThr d B nk ns ne ec V G 1 r G1) ∨ (∃ s9, s9 < ns ∧ x = nI s9 ∧ ((zsetok nk set = false ∧ mThr d B nk ns ne ec V G 2 r G1) ∨ (∃ g9, g9 < 2 ^ nk ∧ set = nI g9 ∧ ((nI (zpop 9 (mgr V s9 g9)) < V (200 + s9) 0 ∧ mThr d B nk ns ne ec V G 3 r G1) ∨ (¬ nI (zpop 9 (mgr V s9 g9)) < V (200 + s9) 0 ∧ ∃ t V1 V2 V4 V5 fc B' V' ne' ec', 1 ≤ t ∧ t ≤ 4 ∧ V1 (200 + s9) 0 = nI t ∧ zKn V V1 ∧ V1 0 0 = 0 ∧ mLk V1 V2 (zlkn (nI t) (V1 0 1) t) ∧ (∀ j, j < t → fc j = zcvn 0 (nI t) (V1 0 1) j) ∧ V4 = rset V2 (200 + s9) (zs6 (V2 (200 + s9)) (V2 (200 + s9) 3 + 1) (V2 (200 + s9) 4) (V2 (200 + s9) 5)) ∧ zHd V4 V5 s9 (nI (mgr V1 s9 g9)) (fun j => zr97 (V4 (300 + s9) j + zcN fc (nI j + 1) t t)) 8 ∧ mEn V5 V' ne ne' 1 x ∧ zM d B' V' nk ns ne' ec' G1 ∧ mNw B B' nk ns ne nk ns ne' G ∧ mFr B nk ns ne G G1 ∧ r = some (.int (nI (zpop 9 (zsetN (zst (V' (300 + s9)) (V' (400 + s9)) (V' (200 + s9) 3)) 8)))))))))) (zNo) := by
  have hnk : nk ≤ 8 := hM.2.1
  have hns : ns ≤ 6 := hM.2.2.1
  have hne : ne ≤ 64 := hM.2.2.2.1
  have hp2 : 2 ^ nk ≤ 256 := Nat.pow_le_pow_right (n := 2) (by decide) hnk
  refine z_entry hs0 hst (by decide) (Nat.le_of_ble_eq_true rfl) (fun p e s m args below meth c => ?_)
  refine z_aload_n 0 d_Mo_fresh_0 rfl rfl ?_
  refine z_iconst (v := 0) d_Mo_fresh_1 (by decide) ?_
  refine z_put zc_Mo 0 (by decide) qF_Mo_36 hM.mo rfl rfl rfl (Nat.le_of_ble_eq_true rfl) d_Mo_fresh_2 ?_
  obtain ⟨V1, hM1, hK1, hF1, hT1⟩ := hM.putT 0
  refine z_aload_n 0 d_Mo_fresh_5 rfl rfl ?_
  refine z_iload_n 1 d_Mo_fresh_6 rfl rfl ?_
  refine z_callV0 (m_Mo_isSecret hs0 hst hM1 x) ym_Mo_isSecret qM_Mo_147 qI_Mo_isSecret qV_Mo_Mo_isSecret zc_Mo hM1.mo d_Mo_fresh_7 rfl (Nat.le_of_ble_eq_true rfl) ⟨by decide, by decide⟩ ⟨Nat.le_of_ble_eq_true rfl, Nat.le_of_ble_eq_true rfl⟩ ?_
  refine z_if_ne 19 d_Mo_fresh_10 (by decide) (fun c_10 => ?_) (fun c_10 => ?_)
  · skip
    obtain ⟨si, hsi, rfl⟩ := zin_n ((zb_n0 _).mp c_10) (by omega)
    refine z_aload_n 0 d_Mo_fresh_19 rfl rfl ?_
    refine z_iload_n 2 d_Mo_fresh_20 rfl rfl ?_
    refine z_callV0 (m_Mo_isSet hs0 hst hM1 set) ym_Mo_isSet qM_Mo_129 qI_Mo_isSet qV_Mo_Mo_isSet zc_Mo hM1.mo d_Mo_fresh_21 rfl (Nat.le_of_ble_eq_true rfl) ⟨by decide, by decide⟩ ⟨Nat.le_of_ble_eq_true rfl, Nat.le_of_ble_eq_true rfl⟩ ?_
    refine z_if_ne 33 d_Mo_fresh_24 (by decide) (fun c_24 => ?_) (fun c_24 => ?_)
    · skip
      obtain ⟨g, hg, rfl⟩ := zsetok_le hnk ((zb_n0 _).mp c_24)
      refine z_aload_n 0 d_Mo_fresh_33 rfl rfl ?_
      refine z_get zc_Mo 7 (by decide) qF_Mo_20 hM1.mo rfl d_Mo_fresh_34 ?_
      refine z_iload_n 1 d_Mo_fresh_37 rfl rfl ?_
      refine z_callF0 (m_AL_get hs0 hst (hM1.sA hsi) hsi (if_pos hsi)) ym_AL_get zF_AL_get qM_Mo_51 zc_AL (hM1.sA hsi).1 d_Mo_fresh_38 rfl (Nat.le_of_ble_eq_true rfl) ⟨by decide, by decide⟩ ⟨Nat.le_of_ble_eq_true rfl, Nat.le_of_ble_eq_true rfl⟩ ?_
      refine z_castS zc_MS qK_Mo_47 (hM1.se hsi).1 d_Mo_fresh_43 ?_
      refine z_astore_n (L' := [(3, _), (0, _), (1, _), (2, _)]) d_Mo_fresh_46 rfl (by decide) rfl ?_
      refine z_aload_n 1 d_Mo_fresh_47 rfl rfl ?_
      refine z_aload_n 0 d_Mo_fresh_48 rfl rfl ?_
      refine z_iload_n 3 d_Mo_fresh_49 rfl rfl ?_
      refine z_callV0 ((m_Mo_groupE hs0 hst hM1 hsi (g := g) (by omega))) ym_Mo_group qM_Mo_150 qI_Mo_group qV_Mo_Mo_group zc_Mo hM1.mo d_Mo_fresh_50 rfl (Nat.le_of_ble_eq_true rfl) ⟨by decide, by decide⟩ ⟨Nat.le_of_ble_eq_true rfl, Nat.le_of_ble_eq_true rfl⟩ ?_
      refine z_istore (L' := [(4, _), (3, _), (0, _), (1, _), (2, _)]) d_Mo_fresh_53 (by decide) rfl ?_
      have eG9 : mgr V1 si g = mgr V si g := by unfold mgr; rw [hK1.row (r := 300 + si) (by omega) (by omega) (by omega), hK1.row (r := 400 + si) (by omega) (by omega) (by omega), hK1.row (r := 200 + si) (by omega) (by omega) (by omega)]
      have eT9 : V1 (200 + si) 0 = V (200 + si) 0 := by rw [hK1.row (r := 200 + si) (by omega) (by omega) (by omega)]
      refine z_iload 0 d_Mo_fresh_55 rfl ?_
      refine z_callS0 ((m_Mo_size hs0 hst (nn := (mgr V1 si g)) (by have := mgr_lt (V := V1) (si := si) (s := g); omega))) ym_Mo_size qM_Mo_66 qS_Mo_size d_Mo_fresh_57 rfl (Nat.le_of_ble_eq_true rfl) ⟨by decide, by decide⟩ ⟨Nat.le_of_ble_eq_true rfl, Nat.le_of_ble_eq_true rfl⟩ ?_
      refine z_aload_n 1 d_Mo_fresh_60 rfl rfl ?_
      refine z_get zc_MS 0 (by decide) qF_Mo_69 (hM1.se hsi).1 rfl d_Mo_fresh_61 ?_
      refine z_icmp_ge 73 d_Mo_fresh_64 (by decide) (fun c_64 => ?_) (fun c_64 => ?_)
      · skip
        obtain ⟨t, ht1, ht4, ht⟩ := hM1.tn hsi
        refine z_aload_n 1 d_Mo_fresh_73 rfl rfl ?_
        refine z_get zc_MS 0 (by decide) qF_Mo_69 (hM1.se hsi).1 rfl d_Mo_fresh_74 ?_
        rw [ht]
        refine z_newaI t qA_int (nI_pos (by omega)) (nI_clamp (by omega)) (by show t * 4 ≤ _; omega) ⟨by decide, by show 0 + t ≤ 88; omega⟩ d_Mo_fresh_77 (fun ac hac hacb => ?_)
        refine z_widen (k := 1) (n := 4) (by omega) (by omega) ?_
        have ho : ∀ r, mlive nk ns ne r → B r ≠ ac := hM1.nn_ hac
        have hac0 : G ac = none := by
          cases e : G ac with
          | none => rfl
          | some v => exact absurd hac (by rw [hF1 _ _ e (fun r hr => (ho r hr).symm)]; exact fun q => nomatch q)
        refine z_astore (L' := [(5, _), (4, _), (3, _), (0, _), (1, _), (2, _)]) d_Mo_fresh_79 (by decide) rfl ?_
        refine z_iconst (v := (nI 1)) d_Mo_fresh_81 (by decide) ?_
        refine z_istore (L' := [(6, _), (5, _), (4, _), (3, _), (0, _), (1, _), (2, _)]) d_Mo_fresh_82 (by decide) rfl ?_
        have key_84 : ∀ (n : Nat) (i : Nat) (G2 : zG) (V2 : Nat → Nat → Int32) (fc : Nat → Int32), t - i < n → (i ≤ t) → (1 ≤ i) → (zM d B V2 nk ns ne ec G2) → (mLk V1 V2 (zlkn (nI t) (V1 0 1) i)) → (mFr B nk ns ne G G2) → (G2 ac = some (zI d t fc)) → (∀ j, j < i → fc j = zcvn 0 (nI t) (V1 0 1) j) → Z g0 d y_Mo_fresh c_Mo_fresh 7 ((Option.some Jvm.ClassFile.FieldType.int)) [] p l e (zR 11 3 88) s m args below meth c (vx_MQ below (zQc g0 d (fun r G1 => (zin (nI si) 0 (nI ns - 1) = false ∧ mThr d B nk ns ne ec V G 1 r G1) ∨ (∃ s9, s9 < ns ∧ (nI si) = nI s9 ∧ ((zsetok nk (nI g) = false ∧ mThr d B nk ns ne ec V G 2 r G1) ∨ (∃ g9, g9 < 2 ^ nk ∧ (nI g) = nI g9 ∧ ((nI (zpop 9 (mgr V s9 g9)) < V (200 + s9) 0 ∧ mThr d B nk ns ne ec V G 3 r G1) ∨ (¬ nI (zpop 9 (mgr V s9 g9)) < V (200 + s9) 0 ∧ ∃ t V1 V2 V4 V5 fc B' V' ne' ec', 1 ≤ t ∧ t ≤ 4 ∧ V1 (200 + s9) 0 = nI t ∧ zKn V V1 ∧ V1 0 0 = 0 ∧ mLk V1 V2 (zlkn (nI t) (V1 0 1) t) ∧ (∀ j, j < t → fc j = zcvn 0 (nI t) (V1 0 1) j) ∧ V4 = rset V2 (200 + s9) (zs6 (V2 (200 + s9)) (V2 (200 + s9) 3 + 1) (V2 (200 + s9) 4) (V2 (200 + s9) 5)) ∧ zHd V4 V5 s9 (nI (mgr V1 s9 g9)) (fun j => zr97 (V4 (300 + s9) j + zcN fc (nI j + 1) t t)) 8 ∧ mEn V5 V' ne ne' 1 (nI si) ∧ zM d B' V' nk ns ne' ec' G1 ∧ mNw B B' nk ns ne nk ns ne' G ∧ mFr B nk ns ne G G1 ∧ r = some (.int (nI (zpop 9 (zsetN (zst (V' (300 + s9)) (V' (400 + s9)) (V' (200 + s9) 3)) 8))))))))))) (zXc g0 d (zNo)) args s 3 88 (zA g0)) 1 4 (G2) [(6, .int (nI i)), (5, .ref ac), (4, .int (nI (mgr V1 si g))), (3, .ref (B (200 + si))), (0, .ref (B 0)), (1, .int (nI si)), (2, .int (nI g))] [] 84 := by
          intro n
          induction n with
          | zero => intro i G2 V2 fc h0; exact absurd h0 (Nat.not_lt_zero _)
          | succ n ih_84 =>
            intro i G2 V2 fc hm_84 hi h1i hM2 hK2 hF2 hA2 hC2
            refine z_iload 0 d_Mo_fresh_84 rfl ?_
            refine z_aload_n 3 d_Mo_fresh_86 rfl rfl ?_
            have ht2 : V2 (200 + si) 0 = nI t := by rw [hK2.2 (200 + si) (by omega)]; exact ht
            refine z_get zc_MS 0 (by decide) qF_Mo_69 (hM2.se hsi).1 rfl d_Mo_fresh_87 ?_
            rw [ht2]
            refine z_icmp_ge 108 d_Mo_fresh_90 (by decide) (fun c_90 => ?_) (fun c_90 => ?_)
            · skip
              obtain rfl : t = i := by
                have := (nI_leI (a := t) (b := i) (by omega) (by omega)).mp c_90
                omega
              refine z_aload_n 3 d_Mo_fresh_108 rfl rfl ?_
              refine z_dup d_Mo_fresh_109 rfl ?_
              refine z_get zc_MS 3 (by decide) qF_Mo_153 (hM2.se hsi).1 rfl d_Mo_fresh_110 ?_
              refine z_iconst (v := 1) d_Mo_fresh_113 (by decide) ?_
              refine z_iadd d_Mo_fresh_114 ?_
              refine z_put zc_MS 3 (by decide) qF_Mo_153 (hM2.se hsi).1 rfl rfl rfl (Nat.le_of_ble_eq_true rfl) d_Mo_fresh_115 ?_
              obtain ⟨b, eb⟩ := hM2.ta hsi
              have hp4 := hM2.puts hsi (V2 (200 + si) 3 + 1) (V2 (200 + si) 4) b
              rw [← eb] at hp4
              obtain ⟨hM4, hF4⟩ := hp4
              have hA4 := (zu_n (v := zms B V2 si (V2 (200 + si) 3 + 1) (V2 (200 + si) 4) (V2 (200 + si) 5)) (ho _ (ml_i hsi)).symm).trans hA2
              obtain ⟨V4, hV4⟩ : ∃ v, v = rset V2 (200 + si) (zs6 (V2 (200 + si)) (V2 (200 + si) 3 + 1) (V2 (200 + si) 4) (V2 (200 + si) 5)) := ⟨_, rfl⟩
              rw [← hV4] at hM4
              have hL4 := hK2
              replace hF4 := hF2.tr hF4
              refine z_iconst (v := (nI 0)) d_Mo_fresh_118 (by decide) ?_
              refine z_istore (L' := [(6, _), (5, _), (4, _), (3, _), (0, _), (1, _), (2, _)]) d_Mo_fresh_119 (by decide) rfl ?_
              have key_121 : ∀ (n : Nat) (i : Nat) (G2 : zG) (V2 : Nat → Nat → Int32), 8 - i < n → (i ≤ 8) → (zM d B V2 nk ns ne ec G2) → (zHd V4 V2 si (nI (mgr V1 si g)) (fun j => zr97 (V4 (300 + si) j + zcN fc (nI j + 1) t t)) i) → (mFr B nk ns ne G G2) → (G2 ac = some (zI d t fc)) → Z g0 d y_Mo_fresh c_Mo_fresh 7 ((Option.some Jvm.ClassFile.FieldType.int)) [] p l e (zR 11 3 88) s m args below meth c (vx_MQ below (zQc g0 d (fun r G1 => (zin (nI si) 0 (nI ns - 1) = false ∧ mThr d B nk ns ne ec V G 1 r G1) ∨ (∃ s9, s9 < ns ∧ (nI si) = nI s9 ∧ ((zsetok nk (nI g) = false ∧ mThr d B nk ns ne ec V G 2 r G1) ∨ (∃ g9, g9 < 2 ^ nk ∧ (nI g) = nI g9 ∧ ((nI (zpop 9 (mgr V s9 g9)) < V (200 + s9) 0 ∧ mThr d B nk ns ne ec V G 3 r G1) ∨ (¬ nI (zpop 9 (mgr V s9 g9)) < V (200 + s9) 0 ∧ ∃ t V1 V2 V4 V5 fc B' V' ne' ec', 1 ≤ t ∧ t ≤ 4 ∧ V1 (200 + s9) 0 = nI t ∧ zKn V V1 ∧ V1 0 0 = 0 ∧ mLk V1 V2 (zlkn (nI t) (V1 0 1) t) ∧ (∀ j, j < t → fc j = zcvn 0 (nI t) (V1 0 1) j) ∧ V4 = rset V2 (200 + s9) (zs6 (V2 (200 + s9)) (V2 (200 + s9) 3 + 1) (V2 (200 + s9) 4) (V2 (200 + s9) 5)) ∧ zHd V4 V5 s9 (nI (mgr V1 s9 g9)) (fun j => zr97 (V4 (300 + s9) j + zcN fc (nI j + 1) t t)) 8 ∧ mEn V5 V' ne ne' 1 (nI si) ∧ zM d B' V' nk ns ne' ec' G1 ∧ mNw B B' nk ns ne nk ns ne' G ∧ mFr B nk ns ne G G1 ∧ r = some (.int (nI (zpop 9 (zsetN (zst (V' (300 + s9)) (V' (400 + s9)) (V' (200 + s9) 3)) 8))))))))))) (zXc g0 d (zNo)) args s 3 88 (zA g0)) 1 4 (G2) [(6, .int (nI i)), (5, .ref ac), (4, .int (nI (mgr V1 si g))), (3, .ref (B (200 + si))), (0, .ref (B 0)), (1, .int (nI si)), (2, .int (nI g))] [] 121 := by
                intro n
                induction n with
                | zero => intro i G2 V2 h0; exact absurd h0 (Nat.not_lt_zero _)
                | succ n ih_121 =>
                  intro i G2 V2 hm_121 hi hM2 hK2 hF2 hA2
                  refine z_iload 0 d_Mo_fresh_121 rfl ?_
                  refine z_bipush (v := 8) d_Mo_fresh_123 (by decide) ?_
                  refine z_icmp_ge 185 d_Mo_fresh_125 (by decide) (fun c_125 => ?_) (fun c_125 => ?_)
                  · skip
                    obtain rfl : i = 8 := by
                      have := (nI_leI (a := 8) (b := i) (by decide) (by omega)).mp c_125
                      omega
                    refine z_aload_n 4 d_Mo_fresh_185 rfl rfl ?_
                    refine z_iconst (v := 1) d_Mo_fresh_186 (by decide) ?_
                    refine z_iload_n 5 d_Mo_fresh_187 rfl rfl ?_
                    refine z_callVp1 ((m_Mo_writeE hs0 hst hM2 _ _)) ym_Mo_write qM_Mo_143 qI_Mo_write qV_Mo_Mo_write zc_Mo hM2.mo d_Mo_fresh_188 rfl (Nat.le_of_ble_eq_true rfl) ⟨by decide, by decide⟩ ⟨Nat.le_of_ble_eq_true rfl, Nat.le_of_ble_eq_true rfl⟩ (fun r_188 G_188 hp_188 => ?_)
                    obtain ⟨hr_188, B7, V7, ne7, ec7, hM7, hK7, hN7, hF7, hB7⟩ := hp_188
                    obtain rfl : r_188 = none := hr_188
                    have hS4 := hM7.se hsi
                    rw [hB7 (200 + si) (by omega) (by omega)] at hS4
                    refine z_aload_n 3 d_Mo_fresh_191 rfl rfl ?_
                    refine z_callV1 (m_MS_stale hs0 hst hS4) ym_MS_stale qM_Mo_156 qI_MS_stale qV_MS_MS_stale zc_MS hS4.1 d_Mo_fresh_192 rfl (Nat.le_of_ble_eq_true rfl) ⟨by decide, by decide⟩ ⟨Nat.le_of_ble_eq_true rfl, Nat.le_of_ble_eq_true rfl⟩ ?_
                    rw [(zset_N (zst (V7 (300 + si)) (V7 (400 + si)) (V7 (200 + si) 3)) 8 (by decide)).1]
                    refine z_callS1 ((m_Mo_size hs0 hst (nn := zsetN (zst (V7 (300 + si)) (V7 (400 + si)) (V7 (200 + si) 3)) 8) (by have := (zset_N (zst (V7 (300 + si)) (V7 (400 + si)) (V7 (200 + si) 3)) 8 (by decide)).2; omega))) ym_Mo_size qM_Mo_66 qS_Mo_size d_Mo_fresh_195 rfl (Nat.le_of_ble_eq_true rfl) ⟨by decide, by decide⟩ ⟨Nat.le_of_ble_eq_true rfl, Nat.le_of_ble_eq_true rfl⟩ ?_
                    exact z_iret rfl (Or.inr ⟨si, hsi, rfl, Or.inr ⟨g, hg, rfl, Or.inr ⟨by rw [← eG9, ← eT9]; exact Int32.not_lt.mpr c_64, _, V1, _, V4, V2, fc, B7, V7, ne7, ec7, ht1, ht4, ht, hK1, hT1, hL4, hC2, hV4, hK2, hK7, hM7, mNw.rf.tr hN7 hF2 hM.ne0, hF2.tr hF7, rfl⟩⟩⟩) (by first | decide | omega) (by first | decide | omega) d_Mo_fresh_198
                  · skip
                    have hi6 : i < 8 := Nat.lt_of_not_le fun q => c_125 (nI_le (a := 8) (b := i) q (by omega))
                    refine z_iload 2 d_Mo_fresh_128 rfl ?_
                    refine z_iload 0 d_Mo_fresh_130 rfl ?_
                    refine z_callS0 (m_Mo_has hs0 hst (nI (mgr V1 si g)) (nI i)) ym_Mo_has qM_Mo_76 qS_Mo_has d_Mo_fresh_132 rfl (Nat.le_of_ble_eq_true rfl) ⟨by decide, by decide⟩ ⟨Nat.le_of_ble_eq_true rfl, Nat.le_of_ble_eq_true rfl⟩ ?_
                    refine z_if_ne 141 d_Mo_fresh_135 (by decide) (fun c_135 => ?_) (fun c_135 => ?_)
                    · skip
                      have hk6 : i < nk := zbt_lt (Nat.lt_of_le_of_lt (mgr_le (by omega)) hg) (by have := mgr_lt (V := V1) (si := si) (s := g); omega) hi6 c_135
                      have hf3 : zbt (nI (mgr V1 si g)) i = true := (zb_n0 _).mp c_135
                      refine z_aload_n 3 d_Mo_fresh_141 rfl rfl ?_
                      refine z_get zc_MS 6 (by decide) qF_Mo_46 (hM2.se hsi).1 rfl d_Mo_fresh_142 ?_
                      refine z_iload 0 d_Mo_fresh_145 rfl ?_
                      refine z_aload_n 3 d_Mo_fresh_147 rfl rfl ?_
                      refine z_get zc_MS 6 (by decide) qF_Mo_46 (hM2.se hsi).1 rfl d_Mo_fresh_148 ?_
                      refine z_iload 0 d_Mo_fresh_151 rfl ?_
                      refine z_ialdN (hM2.se hsi).2.1 (hi6) (by decide) d_Mo_fresh_153 ?_
                      refine z_aload 1 d_Mo_fresh_154 rfl ?_
                      refine z_iload 0 d_Mo_fresh_156 rfl ?_
                      refine z_iconst (v := 1) d_Mo_fresh_158 (by decide) ?_
                      refine z_iadd d_Mo_fresh_159 ?_
                      refine z_callS1 ((m_Mo_atE hs0 hst hA2 (by omega) (nI i + 1))) ym_Mo_at qM_Mo_136 qS_Mo_at d_Mo_fresh_160 rfl (Nat.le_of_ble_eq_true rfl) ⟨by decide, by decide⟩ ⟨Nat.le_of_ble_eq_true rfl, Nat.le_of_ble_eq_true rfl⟩ ?_
                      refine z_iadd d_Mo_fresh_163 ?_
                      refine z_bipush (v := 97) d_Mo_fresh_164 (by decide) ?_
                      refine z_irem d_Mo_fresh_166 (by decide) ?_
                      refine z_iastN (hM2.se hsi).2.1 (hi6) (by decide) d_Mo_fresh_167 ?_
                      obtain ⟨hM5, hF5⟩ := hM2.putshE hsi hk6 (zr97 (V2 (300 + si) i + zcN fc (nI i + 1) t t))
                      have hA5 := (zu_n (v := zI d 8 (upd (V2 (300 + si)) i (zr97 (V2 (300 + si) i + zcN fc (nI i + 1) t t)))) (ho _ (ml_sh hsi)).symm).trans hA2
                      obtain ⟨V5, hV5⟩ : ∃ v, v = rset V2 (300 + si) (upd (V2 (300 + si)) i (zr97 (V2 (300 + si) i + zcN fc (nI i + 1) t t))) := ⟨_, rfl⟩
                      rw [← hV5] at hM5
                      refine z_aload_n 3 d_Mo_fresh_168 rfl rfl ?_
                      refine z_get zc_MS 7 (by decide) qF_Mo_140 (hM5.se hsi).1 rfl d_Mo_fresh_169 ?_
                      refine z_iload 0 d_Mo_fresh_172 rfl ?_
                      refine z_aload_n 3 d_Mo_fresh_174 rfl rfl ?_
                      refine z_get zc_MS 3 (by decide) qF_Mo_153 (hM5.se hsi).1 rfl d_Mo_fresh_175 ?_
                      refine z_iastN (hM5.se hsi).2.2.1 (hi6) (by decide) d_Mo_fresh_178 ?_
                      obtain ⟨hM6, hF6⟩ := hM5.putepE hsi (upd (V5 (400 + si)) i (V5 (200 + si) 3))
                      have hA6 := (zu_n (v := zI d 8 (upd (V5 (400 + si)) i (V5 (200 + si) 3))) (ho _ (ml_ep hsi)).symm).trans hA5
                      refine z_iinc (v := nI (i + 1)) (L' := [(6, _), (5, _), (4, _), (3, _), (0, _), (1, _), (2, _)]) 0 d_Mo_fresh_179 rfl (nI_1 i) (by decide) rfl ?_
                      refine z_goto 121 d_Mo_fresh_182 (by decide) ?_
                      first
                        | (have hq := hf3
                           have e4 : V5 (400 + si) = V2 (400 + si) := by rw [hV5, rset_n (by omega)]
                           have e5 : V5 (200 + si) = V2 (200 + si) := by rw [hV5, rset_n (by omega)]
                           have hK6 := hK2.hold hf3 (v := zr97 (V2 (300 + si) i + zcN fc (nI i + 1) t t)) (e := V5 (200 + si) 3) (by rw [hK2.o]) (by rw [e5, hK2.1 (200 + si) (by omega) (by omega)])
                           rw [← hV5, ← e4] at hK6
                           exact ih_121 (i + 1) _ _ (by omega) (by omega) hM6 hK6 ((hF2.tr hF5).tr hF6) hA6)
                        | exact ih_121 (i + 1) _ _ (by omega) (by omega) hM2 (hK2.skip hf2) hF2 hA2
                    · skip
                      have hf2 : zbt (nI (mgr V1 si g)) i = false := (zb_0 _).mp c_135
                      refine z_goto 179 d_Mo_fresh_138 (by decide) ?_
                      refine z_iinc (v := nI (i + 1)) (L' := [(6, _), (5, _), (4, _), (3, _), (0, _), (1, _), (2, _)]) 0 d_Mo_fresh_179 rfl (nI_1 i) (by decide) rfl ?_
                      refine z_goto 121 d_Mo_fresh_182 (by decide) ?_
                      first
                        | (have hq := hf3
                           have e4 : V5 (400 + si) = V2 (400 + si) := by rw [hV5, rset_n (by omega)]
                           have e5 : V5 (200 + si) = V2 (200 + si) := by rw [hV5, rset_n (by omega)]
                           have hK6 := hK2.hold hf3 (v := zr97 (V2 (300 + si) i + zcN fc (nI i + 1) t t)) (e := V5 (200 + si) 3) (by rw [hK2.o]) (by rw [e5, hK2.1 (200 + si) (by omega) (by omega)])
                           rw [← hV5, ← e4] at hK6
                           exact ih_121 (i + 1) _ _ (by omega) (by omega) hM6 hK6 ((hF2.tr hF5).tr hF6) hA6)
                        | exact ih_121 (i + 1) _ _ (by omega) (by omega) hM2 (hK2.skip hf2) hF2 hA2
              exact key_121 9 0 _ _ (by omega) (by omega) hM4 zHd.z hF4 hA4
            · skip
              have hi6 : i < t := Nat.lt_of_not_le fun q => c_90 (nI_le q (by omega))
              refine z_aload 1 d_Mo_fresh_93 rfl ?_
              refine z_iload 0 d_Mo_fresh_95 rfl ?_
              refine z_aload_n 4 d_Mo_fresh_97 rfl rfl ?_
              refine z_callVp1 ((m_Mo_drawE hs0 hst hM2)) ym_Mo_draw qM_Mo_133 qI_Mo_draw qV_Mo_Mo_draw zc_Mo hM2.mo d_Mo_fresh_98 rfl (Nat.le_of_ble_eq_true rfl) ⟨by decide, by decide⟩ ⟨Nat.le_of_ble_eq_true rfl, Nat.le_of_ble_eq_true rfl⟩ (fun r_98 G_98 hp_98 => ?_)
              obtain ⟨hr_98, hM3, hF3⟩ := hp_98
              obtain rfl : r_98 = _ := hr_98
              have hA3 := hF3 _ _ hA2 (fun r hr => (ho r hr).symm)
              refine z_iastN hA3 (show i < t by omega) (by omega) d_Mo_fresh_101 ?_
              refine z_iinc (v := nI (i + 1)) (L' := [(6, _), (5, _), (4, _), (3, _), (0, _), (1, _), (2, _)]) 0 d_Mo_fresh_102 rfl (nI_1 i) (by decide) rfl ?_
              refine z_goto 84 d_Mo_fresh_105 (by decide) ?_
              exact ih_84 (i + 1) _ _ _ (by omega) (by omega) (by omega) (hM3.out ho) (hK2.s h1i hi6 ht4) ((hF2.tr hF3).nw hac0) zu_s (fun j hj => by
                by_cases e : j = i
                · subst e; rw [pk_us, zcvn_i h1i hi6 ht4, hK2.1.2.1]
                · rw [pk_un e]; exact hC2 j (by omega))
        exact key_84 (t + 1) 1 _ _ _ (by omega) ht1 (by decide) (hM1.out ho) mLk.z (hF1.nw hac0) zu_s (fun j hj => by
          have hj0 : j = 0 := Nat.lt_one_iff.mp hj
          subst hj0
          rfl)
      · skip
        refine z_aload_n 2 d_Mo_fresh_67 rfl rfl ?_
        refine z_iconst (v := 3) d_Mo_fresh_68 (by decide) ?_
        refine z_callV0 (m_Mo_no hs0 hst hM1.mo 3) ym_Mo_no qM_Mo_119 qI_Mo_no qV_Mo_Mo_no zc_Mo hM1.mo d_Mo_fresh_69 rfl (Nat.le_of_ble_eq_true rfl) ⟨by decide, by decide⟩ ⟨Nat.le_of_ble_eq_true rfl, Nat.le_of_ble_eq_true rfl⟩ ?_
        obtain ⟨V9, hM9, hK9, hF9, hT9⟩ := hM1.putT 3
        exact z_iret rfl (Or.inr ⟨si, hsi, rfl, Or.inr ⟨g, hg, rfl, Or.inl ⟨by rw [← eG9, ← eT9]; exact Int32.not_le.mp c_64, ⟨rfl, V9, hM9, hT9, hK1.tr hK9, hF1.tr hF9⟩⟩⟩⟩) (by first | decide | omega) (by first | decide | omega) d_Mo_fresh_72
    · skip
      refine z_aload_n 0 d_Mo_fresh_27 rfl rfl ?_
      refine z_iconst (v := 2) d_Mo_fresh_28 (by decide) ?_
      refine z_callV0 (m_Mo_no hs0 hst hM1.mo 2) ym_Mo_no qM_Mo_119 qI_Mo_no qV_Mo_Mo_no zc_Mo hM1.mo d_Mo_fresh_29 rfl (Nat.le_of_ble_eq_true rfl) ⟨by decide, by decide⟩ ⟨Nat.le_of_ble_eq_true rfl, Nat.le_of_ble_eq_true rfl⟩ ?_
      obtain ⟨V9, hM9, hK9, hF9, hT9⟩ := hM1.putT 2
      exact z_iret rfl (Or.inr ⟨si, hsi, rfl, Or.inl ⟨(zb_0 _).mp (by first | exact c_24 | exact Decidable.not_not.mp c_24), ⟨rfl, V9, hM9, hT9, hK1.tr hK9, hF1.tr hF9⟩⟩⟩) (by first | decide | omega) (by first | decide | omega) d_Mo_fresh_32
  · skip
    refine z_aload_n 0 d_Mo_fresh_13 rfl rfl ?_
    refine z_iconst (v := 1) d_Mo_fresh_14 (by decide) ?_
    refine z_callV0 (m_Mo_no hs0 hst hM1.mo 1) ym_Mo_no qM_Mo_119 qI_Mo_no qV_Mo_Mo_no zc_Mo hM1.mo d_Mo_fresh_15 rfl (Nat.le_of_ble_eq_true rfl) ⟨by decide, by decide⟩ ⟨Nat.le_of_ble_eq_true rfl, Nat.le_of_ble_eq_true rfl⟩ ?_
    obtain ⟨V9, hM9, hK9, hF9, hT9⟩ := hM1.putT 1
    exact z_iret rfl (Or.inl ⟨(zb_0 _).mp (by first | exact c_10 | exact Decidable.not_not.mp c_10), ⟨rfl, V9, hM9, hT9, hK1.tr hK9, hF1.tr hF9⟩⟩) (by first | decide | omega) (by first | decide | omega) d_Mo_fresh_18
