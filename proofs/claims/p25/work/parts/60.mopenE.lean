
theorem mEn.row {V V' : Nat → Nat → Int32} {ne ne' : Nat} {kd ab : Int32} (h : mEn V V' ne ne' kd ab) {r : Nat} (h5 : r ≠ 5) (hr : r < 500) : V' r = V r := by
  rcases h with ⟨-, -, rfl⟩ | ⟨-, -, rfl⟩
  · rfl
  · rw [rset_n h5, rset_n (by omega)]
/-- noted: those of a set among the first i -/
def mNt (V V' : Nat → Nat → Int32) (set : Int32) (i : Nat) : Prop := (∀ r, ¬ (100 ≤ r ∧ r < 100 + i) → V' r = V r) ∧ ∀ k, k < i → (∀ j, j ≤ 3 → V' (100 + k) j = V (100 + k) j) ∧ V' (100 + k) 4 = V (100 + k) 4 ||| zb (zbt set k)
theorem mNt.z {V : Nat → Nat → Int32} {set : Int32} : mNt V V set 0 := ⟨fun _ _ => rfl, fun k hk => absurd hk (Nat.not_lt_zero _)⟩
theorem mNt.note {V V2 : Nat → Nat → Int32} {set w : Int32} {i : Nat} (h : mNt V V2 set i) (hw : V2 (100 + i) 4 ||| zb (zbt set i) = w) : mNt V (rset V2 (100 + i) (zk5 (V2 (100 + i)) (V2 (100 + i) 3) w)) set (i + 1) := by
  obtain ⟨h1, h2⟩ := h
  refine ⟨fun r hr => by rw [rset_n (by omega)]; exact h1 r (by omega), fun k hk => ?_⟩
  by_cases e : k = i
  · subst e
    have e0 := h1 (100 + k) (by omega)
    rw [rset_s, ← e0]
    refine ⟨fun j hj => ?_, hw.symm⟩
    have : j = 0 ∨ j = 1 ∨ j = 2 ∨ j = 3 := by omega
    rcases this with rfl | rfl | rfl | rfl <;> rfl
  · rw [rset_n (by omega)]; exact h2 k (by omega)
theorem mNt.mg {V V2 : Nat → Nat → Int32} {set : Int32} {i : Nat} (h : mNt V V2 set i) (hi : i ≤ 8) (si : Nat) : mgv V2 si = mgv V si := funext fun k => by
  have e : V2 (100 + k) 3 = V (100 + k) 3 := by
    by_cases hk : k < i
    · exact (h.2 k hk).1 3 (by decide)
    · rw [h.1 (100 + k) (by omega)]
  unfold mgv
  rw [e, h.1 (300 + si) (by omega)]
theorem mEn.mg {V V2 : Nat → Nat → Int32} {ne ne' : Nat} {kd ab : Int32} (h : mEn V V2 ne ne' kd ab) {si : Nat} (h6 : si < 6) (hk : ∀ k, k < 8 → V2 (100 + k) 3 = V (100 + k) 3) : ∀ k, k < 8 → mgv V2 si k = mgv V si k := fun k h8 => by
  unfold mgv
  rw [hk k h8, h.row (r := 300 + si) (by omega) (by omega)]
section ZG8
variable {inv h h' : Nat → Int32} {t g : Nat}
theorem zSm.g8 (hs : zSm h g) (hh : ∀ k, k < 8 → h' k = h k) : zSm h' g := fun k hk h1 => by rw [hh k hk]; exact hs k hk h1
theorem zth_g (hh : ∀ k, k < 8 → h k = h' k) {s x : Int32} : zth inv (gvs h) s x = zth inv (gvs h') s x := zthO_congr (fun k hk _ => by
  match k, hk with
  | 0, _ => rfl
  | k + 1, hk => exact hh k (by omega)) 9 (Nat.le_refl _)
theorem rag_g (hh : ∀ k, k < 8 → h k = h' k) {q : Nat} : rag inv h g q = rag inv h' g q := by
  unfold rag
  exact zsN_congr 8 fun k hk => by rw [zth_g hh, hh k hk]
theorem rmb_g (hh : ∀ k, k < 8 → h k = h' k) : ∀ n, rmb inv h t g n = rmb inv h' t g n
  | 0 => rfl
  | n + 1 => by
    unfold rmb
    rw [rmb_g hh n, rag_g hh]
end ZG8
def mlw (V : Nat → Nat → Int32) (nk si : Nat) (set : Int32) : Bool := zlwf (zbc (zzo set (fun k => V (100 + k) 0) nk)) (V (200 + si) 1) (V 0 2) (V (200 + si) 2) (V (200 + si) 4)
def mOp (V1 V' : Nat → Nat → Int32) (nk ne ne' si g : Nat) (x : Int32) (r : Option Value) : Prop := ∃ t, 1 ≤ t ∧ t ≤ 4 ∧ V1 (200 + si) 0 = nI t ∧
  ((mlw V1 nk si (nI (mgr V1 si g)) = false ∧ r = some (.int (-1)) ∧ mEn (rset V1 0 (zm6 (V1 0 0) (V1 0 1) (V1 0 2) (V1 0 3 + 1) (V1 0 4) (V1 0 5))) V' ne ne' 5 x) ∨
   (mlw V1 nk si (nI (mgr V1 si g)) = true ∧ rgd (V1 7) (mgv V1 si) t (mgr V1 si g) = false ∧ r = some (.int (-2)) ∧ ∃ V2, zKp msc V1 V2 ∧ mEn (rset V2 0 (zm6 (V2 0 0) (V2 0 1) (V2 0 2) (V2 0 3) (V2 0 4 + 1) (V2 0 5))) V' ne ne' 6 x) ∨
   (mlw V1 nk si (nI (mgr V1 si g)) = true ∧ rgd (V1 7) (mgv V1 si) t (mgr V1 si g) = true ∧ ∃ V2 V3 V5, zKp msc V1 V2 ∧ mNt V2 V3 (nI (mgr V1 si g) &&& (nI (rag (V1 7) (mgv V1 si) (mgr V1 si g) (rmb (V1 7) (mgv V1 si) t (mgr V1 si g) (mgr V1 si g)).1) ^^^ (-1))) nk ∧ mEn V3 V5 ne ne' 4 x ∧ zKp msc V5 V' ∧ r = some (.int (zth (V1 7) (gvs (mgv V1 si)) (nI (2 * (rmb (V1 7) (mgv V1 si) t (mgr V1 si g) (mgr V1 si g)).1)) (nI 0)))))
theorem zb_or (a b : Bool) : zb a ||| zb b = zb (a || b) := by cases a <;> cases b <;> rfl

theorem d_Mo_open_0 : decode c_Mo_open 0 = .ok (.aload_n 0, 1) := by decide +kernel
theorem d_Mo_open_1 : decode c_Mo_open 1 = .ok (.iconst 0, 1) := by decide +kernel
theorem d_Mo_open_2 : decode c_Mo_open 2 = .ok (.putfield 36, 3) := by decide +kernel
theorem d_Mo_open_5 : decode c_Mo_open 5 = .ok (.aload_n 0, 1) := by decide +kernel
theorem d_Mo_open_6 : decode c_Mo_open 6 = .ok (.iload_n 1, 1) := by decide +kernel
theorem d_Mo_open_7 : decode c_Mo_open 7 = .ok (.invokevirtual 147, 3) := by decide +kernel
theorem d_Mo_open_10 : decode c_Mo_open 10 = .ok (.ifCond .ne 9, 3) := by decide +kernel
theorem d_Mo_open_13 : decode c_Mo_open 13 = .ok (.aload_n 0, 1) := by decide +kernel
theorem d_Mo_open_14 : decode c_Mo_open 14 = .ok (.iconst 1, 1) := by decide +kernel
theorem d_Mo_open_15 : decode c_Mo_open 15 = .ok (.invokevirtual 119, 3) := by decide +kernel
theorem d_Mo_open_18 : decode c_Mo_open 18 = .ok (.ireturn, 1) := by decide +kernel
theorem d_Mo_open_19 : decode c_Mo_open 19 = .ok (.aload_n 0, 1) := by decide +kernel
theorem d_Mo_open_20 : decode c_Mo_open 20 = .ok (.iload_n 2, 1) := by decide +kernel
theorem d_Mo_open_21 : decode c_Mo_open 21 = .ok (.invokevirtual 129, 3) := by decide +kernel
theorem d_Mo_open_24 : decode c_Mo_open 24 = .ok (.ifCond .ne 9, 3) := by decide +kernel
theorem d_Mo_open_27 : decode c_Mo_open 27 = .ok (.aload_n 0, 1) := by decide +kernel
theorem d_Mo_open_28 : decode c_Mo_open 28 = .ok (.iconst 2, 1) := by decide +kernel
theorem d_Mo_open_29 : decode c_Mo_open 29 = .ok (.invokevirtual 119, 3) := by decide +kernel
theorem d_Mo_open_32 : decode c_Mo_open 32 = .ok (.ireturn, 1) := by decide +kernel
theorem d_Mo_open_33 : decode c_Mo_open 33 = .ok (.aload_n 0, 1) := by decide +kernel
theorem d_Mo_open_34 : decode c_Mo_open 34 = .ok (.getfield 20, 3) := by decide +kernel
theorem d_Mo_open_37 : decode c_Mo_open 37 = .ok (.iload_n 1, 1) := by decide +kernel
theorem d_Mo_open_38 : decode c_Mo_open 38 = .ok (.invokeinterface 51 2, 5) := by decide +kernel
theorem d_Mo_open_43 : decode c_Mo_open 43 = .ok (.checkcast 47, 3) := by decide +kernel
theorem d_Mo_open_46 : decode c_Mo_open 46 = .ok (.astore_n 3, 1) := by decide +kernel
theorem d_Mo_open_47 : decode c_Mo_open 47 = .ok (.aload_n 0, 1) := by decide +kernel
theorem d_Mo_open_48 : decode c_Mo_open 48 = .ok (.aload_n 3, 1) := by decide +kernel
theorem d_Mo_open_49 : decode c_Mo_open 49 = .ok (.iload_n 2, 1) := by decide +kernel
theorem d_Mo_open_50 : decode c_Mo_open 50 = .ok (.invokevirtual 150, 3) := by decide +kernel
theorem d_Mo_open_53 : decode c_Mo_open 53 = .ok (.istore 4, 2) := by decide +kernel
theorem d_Mo_open_55 : decode c_Mo_open 55 = .ok (.aload_n 0, 1) := by decide +kernel
theorem d_Mo_open_56 : decode c_Mo_open 56 = .ok (.aload_n 3, 1) := by decide +kernel
theorem d_Mo_open_57 : decode c_Mo_open 57 = .ok (.iload 4, 2) := by decide +kernel
theorem d_Mo_open_59 : decode c_Mo_open 59 = .ok (.invokevirtual 172, 3) := by decide +kernel
theorem d_Mo_open_62 : decode c_Mo_open 62 = .ok (.ifCond .ne 21, 3) := by decide +kernel
theorem d_Mo_open_65 : decode c_Mo_open 65 = .ok (.aload_n 0, 1) := by decide +kernel
theorem d_Mo_open_66 : decode c_Mo_open 66 = .ok (.dup, 1) := by decide +kernel
theorem d_Mo_open_67 : decode c_Mo_open 67 = .ok (.getfield 175, 3) := by decide +kernel
theorem d_Mo_open_70 : decode c_Mo_open 70 = .ok (.iconst 1, 1) := by decide +kernel
theorem d_Mo_open_71 : decode c_Mo_open 71 = .ok (.iadd, 1) := by decide +kernel
theorem d_Mo_open_72 : decode c_Mo_open 72 = .ok (.putfield 175, 3) := by decide +kernel
theorem d_Mo_open_75 : decode c_Mo_open 75 = .ok (.aload_n 0, 1) := by decide +kernel
theorem d_Mo_open_76 : decode c_Mo_open 76 = .ok (.iconst 5, 1) := by decide +kernel
theorem d_Mo_open_77 : decode c_Mo_open 77 = .ok (.iload_n 1, 1) := by decide +kernel
theorem d_Mo_open_78 : decode c_Mo_open 78 = .ok (.invokevirtual 143, 3) := by decide +kernel
theorem d_Mo_open_81 : decode c_Mo_open 81 = .ok (.iconst (-1), 1) := by decide +kernel
theorem d_Mo_open_82 : decode c_Mo_open 82 = .ok (.ireturn, 1) := by decide +kernel
theorem d_Mo_open_83 : decode c_Mo_open 83 = .ok (.aload_n 0, 1) := by decide +kernel
theorem d_Mo_open_84 : decode c_Mo_open 84 = .ok (.aload_n 3, 1) := by decide +kernel
theorem d_Mo_open_85 : decode c_Mo_open 85 = .ok (.iload 4, 2) := by decide +kernel
theorem d_Mo_open_87 : decode c_Mo_open 87 = .ok (.invokevirtual 162, 3) := by decide +kernel
theorem d_Mo_open_90 : decode c_Mo_open 90 = .ok (.ifCond .ne 23, 3) := by decide +kernel
theorem d_Mo_open_93 : decode c_Mo_open 93 = .ok (.aload_n 0, 1) := by decide +kernel
theorem d_Mo_open_94 : decode c_Mo_open 94 = .ok (.dup, 1) := by decide +kernel
theorem d_Mo_open_95 : decode c_Mo_open 95 = .ok (.getfield 178, 3) := by decide +kernel
theorem d_Mo_open_98 : decode c_Mo_open 98 = .ok (.iconst 1, 1) := by decide +kernel
theorem d_Mo_open_99 : decode c_Mo_open 99 = .ok (.iadd, 1) := by decide +kernel
theorem d_Mo_open_100 : decode c_Mo_open 100 = .ok (.putfield 178, 3) := by decide +kernel
theorem d_Mo_open_103 : decode c_Mo_open 103 = .ok (.aload_n 0, 1) := by decide +kernel
theorem d_Mo_open_104 : decode c_Mo_open 104 = .ok (.bipush 6, 2) := by decide +kernel
theorem d_Mo_open_106 : decode c_Mo_open 106 = .ok (.iload_n 1, 1) := by decide +kernel
theorem d_Mo_open_107 : decode c_Mo_open 107 = .ok (.invokevirtual 143, 3) := by decide +kernel
theorem d_Mo_open_110 : decode c_Mo_open 110 = .ok (.bipush (-2), 2) := by decide +kernel
theorem d_Mo_open_112 : decode c_Mo_open 112 = .ok (.ireturn, 1) := by decide +kernel
theorem d_Mo_open_113 : decode c_Mo_open 113 = .ok (.aload_n 0, 1) := by decide +kernel
theorem d_Mo_open_114 : decode c_Mo_open 114 = .ok (.aload_n 3, 1) := by decide +kernel
theorem d_Mo_open_115 : decode c_Mo_open 115 = .ok (.iload 4, 2) := by decide +kernel
theorem d_Mo_open_117 : decode c_Mo_open 117 = .ok (.invokevirtual 181, 3) := by decide +kernel
theorem d_Mo_open_120 : decode c_Mo_open 120 = .ok (.istore 5, 2) := by decide +kernel
theorem d_Mo_open_122 : decode c_Mo_open 122 = .ok (.iconst 0, 1) := by decide +kernel
theorem d_Mo_open_123 : decode c_Mo_open 123 = .ok (.istore 6, 2) := by decide +kernel
theorem d_Mo_open_125 : decode c_Mo_open 125 = .ok (.iload 6, 2) := by decide +kernel
theorem d_Mo_open_127 : decode c_Mo_open 127 = .ok (.aload_n 0, 1) := by decide +kernel
theorem d_Mo_open_128 : decode c_Mo_open 128 = .ok (.getfield 16, 3) := by decide +kernel
theorem d_Mo_open_131 : decode c_Mo_open 131 = .ok (.invokeinterface 94 1, 5) := by decide +kernel
theorem d_Mo_open_136 : decode c_Mo_open 136 = .ok (.if_icmp .ge 38, 3) := by decide +kernel
theorem d_Mo_open_139 : decode c_Mo_open 139 = .ok (.aload_n 0, 1) := by decide +kernel
theorem d_Mo_open_140 : decode c_Mo_open 140 = .ok (.getfield 16, 3) := by decide +kernel
theorem d_Mo_open_143 : decode c_Mo_open 143 = .ok (.iload 6, 2) := by decide +kernel
theorem d_Mo_open_145 : decode c_Mo_open 145 = .ok (.invokeinterface 51 2, 5) := by decide +kernel
theorem d_Mo_open_150 : decode c_Mo_open 150 = .ok (.checkcast 57, 3) := by decide +kernel
theorem d_Mo_open_153 : decode c_Mo_open 153 = .ok (.dup, 1) := by decide +kernel
theorem d_Mo_open_154 : decode c_Mo_open 154 = .ok (.getfield 184, 3) := by decide +kernel
theorem d_Mo_open_157 : decode c_Mo_open 157 = .ok (.iload 5, 2) := by decide +kernel
theorem d_Mo_open_159 : decode c_Mo_open 159 = .ok (.iload 6, 2) := by decide +kernel
theorem d_Mo_open_161 : decode c_Mo_open 161 = .ok (.invokestatic 76, 3) := by decide +kernel
theorem d_Mo_open_164 : decode c_Mo_open 164 = .ok (.ior, 1) := by decide +kernel
theorem d_Mo_open_165 : decode c_Mo_open 165 = .ok (.putfield 184, 3) := by decide +kernel
theorem d_Mo_open_168 : decode c_Mo_open 168 = .ok (.iinc 6 1, 3) := by decide +kernel
theorem d_Mo_open_171 : decode c_Mo_open 171 = .ok (.goto (-46), 3) := by decide +kernel
theorem d_Mo_open_174 : decode c_Mo_open 174 = .ok (.aload_n 0, 1) := by decide +kernel
theorem d_Mo_open_175 : decode c_Mo_open 175 = .ok (.iconst 4, 1) := by decide +kernel
theorem d_Mo_open_176 : decode c_Mo_open 176 = .ok (.iload_n 1, 1) := by decide +kernel
theorem d_Mo_open_177 : decode c_Mo_open 177 = .ok (.invokevirtual 143, 3) := by decide +kernel
theorem d_Mo_open_180 : decode c_Mo_open 180 = .ok (.aload_n 0, 1) := by decide +kernel
theorem d_Mo_open_181 : decode c_Mo_open 181 = .ok (.aload_n 3, 1) := by decide +kernel
theorem d_Mo_open_182 : decode c_Mo_open 182 = .ok (.iload 4, 2) := by decide +kernel
theorem d_Mo_open_184 : decode c_Mo_open 184 = .ok (.invokevirtual 187, 3) := by decide +kernel
theorem d_Mo_open_187 : decode c_Mo_open 187 = .ok (.ireturn, 1) := by decide +kernel
set_option maxHeartbeats 4000000 in
set_option maxRecDepth 100000 in
theorem m_Mo_openE {g0 : State} {d : zD} {l : Launch} {a0 : Array Value} (hs0 : zS0 d a0 g0) (hst : l.stackTraces = false) {G : zG} {B : Nat → Nat} {V : Nat → Nat → Int32} {nk ns ne ec : Nat} (hM : zM d B V nk ns ne ec G) (x set : Int32) {iv : Nat → Nat} (hok : mOk V nk ns iv) : zMet g0 d l y_Mo_open c_Mo_open 7 ((Option.some Jvm.ClassFile.FieldType.int)) 16 2 84 [.ref (B 0), .int x, .int set] (G) (fun r G1 => (zin x 0 (nI ns - 1) = false ∧ mThr d B nk ns ne ec V G 1 r G1) ∨ (∃ s9, s9 < ns ∧ x = nI s9 ∧ ((zsetok nk set = false ∧ mThr d B nk ns ne ec V G 2 r G1) ∨ (∃ g9, g9 < 2 ^ nk ∧ set = nI g9 ∧ ∃ V1 B' V' ne' ec', zKn V V1 ∧ V1 0 0 = 0 ∧ mOp V1 V' nk ne ne' s9 g9 x r ∧ zM d B' V' nk ns ne' ec' G1 ∧ mNw B B' nk ns ne nk ns ne' G ∧ mFr B nk ns ne G G1)))) (zNo) := by
  have hnk : nk ≤ 8 := hM.2.1
  have hns : ns ≤ 6 := hM.2.2.1
  have hne : ne ≤ 64 := hM.2.2.2.1
  have hp2 : 2 ^ nk ≤ 256 := Nat.pow_le_pow_right (n := 2) (by decide) hnk
  refine z_entry hs0 hst (by decide) (Nat.le_of_ble_eq_true rfl) (fun p e s m args below meth c => ?_)
  refine z_aload_n 0 d_Mo_open_0 rfl rfl ?_
  refine z_iconst (v := 0) d_Mo_open_1 (by decide) ?_
  refine z_put zc_Mo 0 (by decide) qF_Mo_36 hM.mo rfl rfl rfl (Nat.le_of_ble_eq_true rfl) d_Mo_open_2 ?_
  obtain ⟨V1, hM1, hK1, hF1, hT1⟩ := hM.putT 0
  refine z_aload_n 0 d_Mo_open_5 rfl rfl ?_
  refine z_iload_n 1 d_Mo_open_6 rfl rfl ?_
  refine z_callV0 (m_Mo_isSecret hs0 hst hM1 x) ym_Mo_isSecret qM_Mo_147 qI_Mo_isSecret qV_Mo_Mo_isSecret zc_Mo hM1.mo d_Mo_open_7 rfl (Nat.le_of_ble_eq_true rfl) ⟨by decide, by decide⟩ ⟨Nat.le_of_ble_eq_true rfl, Nat.le_of_ble_eq_true rfl⟩ ?_
  refine z_if_ne 19 d_Mo_open_10 (by decide) (fun c_10 => ?_) (fun c_10 => ?_)
  · skip
    obtain ⟨si, hsi, rfl⟩ := zin_n ((zb_n0 _).mp c_10) (by omega)
    refine z_aload_n 0 d_Mo_open_19 rfl rfl ?_
    refine z_iload_n 2 d_Mo_open_20 rfl rfl ?_
    refine z_callV0 (m_Mo_isSet hs0 hst hM1 set) ym_Mo_isSet qM_Mo_129 qI_Mo_isSet qV_Mo_Mo_isSet zc_Mo hM1.mo d_Mo_open_21 rfl (Nat.le_of_ble_eq_true rfl) ⟨by decide, by decide⟩ ⟨Nat.le_of_ble_eq_true rfl, Nat.le_of_ble_eq_true rfl⟩ ?_
    refine z_if_ne 33 d_Mo_open_24 (by decide) (fun c_24 => ?_) (fun c_24 => ?_)
    · skip
      obtain ⟨g, hg, rfl⟩ := zsetok_le hnk ((zb_n0 _).mp c_24)
      refine z_aload_n 0 d_Mo_open_33 rfl rfl ?_
      refine z_get zc_Mo 7 (by decide) qF_Mo_20 hM1.mo rfl d_Mo_open_34 ?_
      refine z_iload_n 1 d_Mo_open_37 rfl rfl ?_
      refine z_callF0 (m_AL_get hs0 hst (hM1.sA hsi) hsi (if_pos hsi)) ym_AL_get zF_AL_get qM_Mo_51 zc_AL (hM1.sA hsi).1 d_Mo_open_38 rfl (Nat.le_of_ble_eq_true rfl) ⟨by decide, by decide⟩ ⟨Nat.le_of_ble_eq_true rfl, Nat.le_of_ble_eq_true rfl⟩ ?_
      refine z_castS zc_MS qK_Mo_47 (hM1.se hsi).1 d_Mo_open_43 ?_
      refine z_astore_n (L' := [(3, _), (0, _), (1, _), (2, _)]) d_Mo_open_46 rfl (by decide) rfl ?_
      have hok1 := hK1.ok hok
      have hsm := mgr_sm (s := g) hok1 hsi
      have hgq : mgr V1 si g < 2 ^ nk := Nat.lt_of_le_of_lt (mgr_le (by omega)) hg
      obtain ⟨t, ht1, ht4, ht⟩ := hM1.tn hsi
      refine z_aload_n 1 d_Mo_open_47 rfl rfl ?_
      refine z_aload_n 0 d_Mo_open_48 rfl rfl ?_
      refine z_iload_n 3 d_Mo_open_49 rfl rfl ?_
      refine z_callV0 ((m_Mo_groupE hs0 hst hM1 hsi (g := g) (by omega))) ym_Mo_group qM_Mo_150 qI_Mo_group qV_Mo_Mo_group zc_Mo hM1.mo d_Mo_open_50 rfl (Nat.le_of_ble_eq_true rfl) ⟨by decide, by decide⟩ ⟨Nat.le_of_ble_eq_true rfl, Nat.le_of_ble_eq_true rfl⟩ ?_
      refine z_istore (L' := [(4, _), (3, _), (0, _), (1, _), (2, _)]) d_Mo_open_53 (by decide) rfl ?_
      refine z_aload_n 2 d_Mo_open_55 rfl rfl ?_
      refine z_aload_n 1 d_Mo_open_56 rfl rfl ?_
      refine z_iload 0 d_Mo_open_57 rfl ?_
      refine z_callV0 ((m_Mo_isLawfulE hs0 hst hM1 hsi _ hok1.2.2)) ym_Mo_isLawful qM_Mo_172 qI_Mo_isLawful qV_Mo_Mo_isLawful zc_Mo hM1.mo d_Mo_open_59 rfl (Nat.le_of_ble_eq_true rfl) ⟨by decide, by decide⟩ ⟨Nat.le_of_ble_eq_true rfl, Nat.le_of_ble_eq_true rfl⟩ ?_
      refine z_if_ne 83 d_Mo_open_62 (by decide) (fun c_62 => ?_) (fun c_62 => ?_)
      · skip
        refine z_aload_n 2 d_Mo_open_83 rfl rfl ?_
        refine z_aload_n 1 d_Mo_open_84 rfl rfl ?_
        refine z_iload 0 d_Mo_open_85 rfl ?_
        refine z_callVp0 ((m_Mo_isGoodE hs0 hst hM1 hsi hgq hsm hok1.1 ht ht4)) ym_Mo_isGood qM_Mo_162 qI_Mo_isGood qV_Mo_Mo_isGood zc_Mo hM1.mo d_Mo_open_87 rfl (Nat.le_of_ble_eq_true rfl) ⟨by decide, by decide⟩ ⟨Nat.le_of_ble_eq_true rfl, Nat.le_of_ble_eq_true rfl⟩ (fun r_87 G_87 hp_87 => ?_)
        obtain ⟨hr_87, V2, hM2, hK2, hF2⟩ := hp_87
        obtain rfl : r_87 = _ := hr_87
        replace hF2 := hF1.tr hF2
        refine z_if_ne 113 d_Mo_open_90 (by decide) (fun c_90 => ?_) (fun c_90 => ?_)
        · skip
          refine z_aload_n 2 d_Mo_open_113 rfl rfl ?_
          refine z_aload_n 1 d_Mo_open_114 rfl rfl ?_
          refine z_iload 0 d_Mo_open_115 rfl ?_
          refine z_callVp0 ((m_Mo_liarsE hs0 hst hM2 hsi hgq (by rw [hK2.mg]; exact hsm) (by rw [hK2.r (r := 7) (by decide) (by decide)]; exact hok1.1) (by rw [hK2.r (r := 200 + si) (by omega) (by omega)]; exact ht) ht4)) ym_Mo_liars qM_Mo_181 qI_Mo_liars qV_Mo_Mo_liars zc_Mo hM2.mo d_Mo_open_117 rfl (Nat.le_of_ble_eq_true rfl) ⟨by decide, by decide⟩ ⟨Nat.le_of_ble_eq_true rfl, Nat.le_of_ble_eq_true rfl⟩ (fun r_117 G_117 hp_117 => ?_)
          obtain ⟨hr_117, V4, hM4, hK4, hF4⟩ := hp_117
          rw [hK2.mg, hK2.r (r := 7) (by decide) (by decide)] at hr_117
          obtain rfl : r_117 = _ := hr_117
          replace hK4 := hK2.tr hK4
          replace hF4 := hF2.tr hF4
          refine z_istore (L' := [(5, _), (4, _), (3, _), (0, _), (1, _), (2, _)]) d_Mo_open_120 (by decide) rfl ?_
          refine z_iconst (v := (nI 0)) d_Mo_open_122 (by decide) ?_
          refine z_istore (L' := [(6, _), (5, _), (4, _), (3, _), (0, _), (1, _), (2, _)]) d_Mo_open_123 (by decide) rfl ?_
          have key_125 : ∀ (n : Nat) (i : Nat) (G3 : zG) (V3 : Nat → Nat → Int32), nk - i < n → (i ≤ nk) → (zM d B V3 nk ns ne ec G3) → (mNt V4 V3 (nI (mgr V1 si g) &&& (nI (rag (V1 7) (mgv V1 si) (mgr V1 si g) (rmb (V1 7) (mgv V1 si) t (mgr V1 si g) (mgr V1 si g)).1) ^^^ (-1))) i) → (mFr B nk ns ne G G3) → Z g0 d y_Mo_open c_Mo_open 7 ((Option.some Jvm.ClassFile.FieldType.int)) [] p l e (zR 16 2 84) s m args below meth c (vx_MQ below (zQc g0 d (fun r G1 => (zin (nI si) 0 (nI ns - 1) = false ∧ mThr d B nk ns ne ec V G 1 r G1) ∨ (∃ s9, s9 < ns ∧ (nI si) = nI s9 ∧ ((zsetok nk (nI g) = false ∧ mThr d B nk ns ne ec V G 2 r G1) ∨ (∃ g9, g9 < 2 ^ nk ∧ (nI g) = nI g9 ∧ ∃ V1 B' V' ne' ec', zKn V V1 ∧ V1 0 0 = 0 ∧ mOp V1 V' nk ne ne' s9 g9 (nI si) r ∧ zM d B' V' nk ns ne' ec' G1 ∧ mNw B B' nk ns ne nk ns ne' G ∧ mFr B nk ns ne G G1))))) (zXc g0 d (zNo)) args s 2 84 (zA g0)) 0 0 (G3) [(6, .int (nI i)), (5, .int (nI (mgr V1 si g) &&& (nI (rag (V1 7) (mgv V1 si) (mgr V1 si g) (rmb (V1 7) (mgv V1 si) t (mgr V1 si g) (mgr V1 si g)).1) ^^^ (-1)))), (4, .int (nI (mgr V1 si g))), (3, .ref (B (200 + si))), (0, .ref (B 0)), (1, .int (nI si)), (2, .int (nI g))] [] 125 := by
            intro n
            induction n with
            | zero => intro i G3 V3 h0; exact absurd h0 (Nat.not_lt_zero _)
            | succ n ih_125 =>
              intro i G3 V3 hm_125 hi hM3 hK3 hF3
              refine z_iload 0 d_Mo_open_125 rfl ?_
              refine z_aload_n 4 d_Mo_open_127 rfl rfl ?_
              refine z_get zc_Mo 6 (by decide) qF_Mo_16 hM3.mo rfl d_Mo_open_128 ?_
              refine z_callF0 (m_AL_size hs0 hst hM3.kl) ym_AL_size zF_AL_size qM_Mo_94 zc_AL hM3.kl d_Mo_open_131 rfl (Nat.le_of_ble_eq_true rfl) ⟨by decide, by decide⟩ ⟨Nat.le_of_ble_eq_true rfl, Nat.le_of_ble_eq_true rfl⟩ ?_
              refine z_icmp_ge 174 d_Mo_open_136 (by decide) (fun c_136 => ?_) (fun c_136 => ?_)
              · skip
                obtain rfl : i = nk := by
                  have := (nI_leI (a := nk) (b := i) (by omega) (by omega)).mp c_136
                  omega
                refine z_aload_n 4 d_Mo_open_174 rfl rfl ?_
                refine z_iconst (v := 4) d_Mo_open_175 (by decide) ?_
                refine z_iload_n 5 d_Mo_open_176 rfl rfl ?_
                refine z_callVp1 ((m_Mo_writeE hs0 hst hM3 _ _)) ym_Mo_write qM_Mo_143 qI_Mo_write qV_Mo_Mo_write zc_Mo hM3.mo d_Mo_open_177 rfl (Nat.le_of_ble_eq_true rfl) ⟨by decide, by decide⟩ ⟨Nat.le_of_ble_eq_true rfl, Nat.le_of_ble_eq_true rfl⟩ (fun r_177 G_177 hp_177 => ?_)
                obtain ⟨hr_177, B5, V5, ne5, ec5, hM5, hK5, hN5, hF5, hB5⟩ := hp_177
                obtain rfl : r_177 = none := hr_177
                have eg5 : ∀ k, k < 8 → mgv V5 si k = mgv V1 si k := fun k h8 => (hK5.mg (show si < 6 by omega) (fun k h8 => by rw [hK5.row (r := 100 + k) (by omega) (by omega)]) k h8).trans ((congrFun (hK3.mg hnk si) k).trans (congrFun (hK4.mg si) k))
                have ei5 : V5 7 = V1 7 := (hK5.row (r := 7) (by decide) (by decide)).trans ((hK3.1 7 (by omega)).trans (hK4.r (by decide) (by decide)))
                have et5 : V5 (200 + si) 0 = nI t := by rw [hK5.row (r := 200 + si) (by omega) (by omega), hK3.1 (200 + si) (by omega), hK4.r (r := 200 + si) (by omega) (by omega)]; exact ht
                have hfound := m_Mo_foundE hs0 hst hM5 hsi hgq (hsm.g8 eg5) (by rw [ei5]; exact hok1.1) et5 ht4
                rw [ei5, rmb_g eg5, zth_g eg5] at hfound
                have hmo5 := hM5.mo
                rw [hB5 0 (by omega) (by omega), hB5 (200 + si) (by omega) (by omega)] at hfound
                rw [hB5 0 (by omega) (by omega)] at hmo5
                refine z_aload_n 4 d_Mo_open_180 rfl rfl ?_
                refine z_aload_n 3 d_Mo_open_181 rfl rfl ?_
                refine z_iload 2 d_Mo_open_182 rfl ?_
                refine z_callVp1 (hfound) ym_Mo_found qM_Mo_187 qI_Mo_found qV_Mo_Mo_found zc_Mo hmo5 d_Mo_open_184 rfl (Nat.le_of_ble_eq_true rfl) ⟨by decide, by decide⟩ ⟨Nat.le_of_ble_eq_true rfl, Nat.le_of_ble_eq_true rfl⟩ (fun r_184 G_184 hp_184 => ?_)
                obtain ⟨hr_184, V6, hM6, hK6, hF6⟩ := hp_184
                obtain rfl : r_184 = _ := hr_184
                exact z_iret rfl (Or.inr ⟨si, hsi, rfl, Or.inr ⟨g, hg, rfl, V1, B5, V6, ne5, ec5, hK1, hT1, ⟨t, ht1, ht4, ht, Or.inr (Or.inr ⟨(zb_n0 _).mp c_62, (zb_n0 _).mp c_90, V4, V3, V5, hK4, hK3, hK5, hK6, rfl⟩)⟩, hM6, mNw.rf.tr hN5 hF3 hM.ne0, hF3.tr (hN5.fr hF5 hF6)⟩⟩) (by first | decide | omega) (by first | decide | omega) d_Mo_open_187
              · skip
                have hi6 : i < nk := Nat.lt_of_not_le fun q => c_136 (nI_le q (by omega))
                refine z_aload_n 4 d_Mo_open_139 rfl rfl ?_
                refine z_get zc_Mo 6 (by decide) qF_Mo_16 hM3.mo rfl d_Mo_open_140 ?_
                refine z_iload 0 d_Mo_open_143 rfl ?_
                refine z_callF0 (m_AL_get hs0 hst (hM3.kA hi6) hi6 (if_pos hi6)) ym_AL_get zF_AL_get qM_Mo_51 zc_AL (hM3.kA hi6).1 d_Mo_open_145 rfl (Nat.le_of_ble_eq_true rfl) ⟨by decide, by decide⟩ ⟨Nat.le_of_ble_eq_true rfl, Nat.le_of_ble_eq_true rfl⟩ ?_
                refine z_castS zc_MK qK_Mo_57 (hM3.ke hi6) d_Mo_open_150 ?_
                refine z_dup d_Mo_open_153 rfl ?_
                refine z_get zc_MK 4 (by decide) qF_Mo_184 (hM3.ke hi6) rfl d_Mo_open_154 ?_
                refine z_iload 1 d_Mo_open_157 rfl ?_
                refine z_iload 0 d_Mo_open_159 rfl ?_
                refine z_callS0 (m_Mo_has hs0 hst (nI (mgr V1 si g) &&& (nI (rag (V1 7) (mgv V1 si) (mgr V1 si g) (rmb (V1 7) (mgv V1 si) t (mgr V1 si g) (mgr V1 si g)).1) ^^^ (-1))) (nI i)) ym_Mo_has qM_Mo_76 qS_Mo_has d_Mo_open_161 rfl (Nat.le_of_ble_eq_true rfl) ⟨by decide, by decide⟩ ⟨Nat.le_of_ble_eq_true rfl, Nat.le_of_ble_eq_true rfl⟩ ?_
                refine z_ior d_Mo_open_164 ?_
                obtain ⟨b, eb⟩ := hM3.no hi6
                refine z_topv (v := zb (b || decide (zbit (nI (mgr V1 si g) &&& (nI (rag (V1 7) (mgv V1 si) (mgr V1 si g) (rmb (V1 7) (mgv V1 si) t (mgr V1 si g) (mgr V1 si g)).1) ^^^ (-1))) (nI i) = 1))) (zor_bb eb _) ?_
                obtain ⟨hM3b, hF3b⟩ := hM3.putk hi6 (V3 (100 + i) 3) (b || decide (zbit (nI (mgr V1 si g) &&& (nI (rag (V1 7) (mgv V1 si) (mgr V1 si g) (rmb (V1 7) (mgv V1 si) t (mgr V1 si g) (mgr V1 si g)).1) ^^^ (-1))) (nI i) = 1))
                refine z_put zc_MK 4 (by decide) qF_Mo_184 (hM3.ke hi6) rfl (zb_nar _) (zb_fit _) (Nat.le_of_ble_eq_true rfl) d_Mo_open_165 ?_
                refine z_iinc (v := nI (i + 1)) (L' := [(6, _), (5, _), (4, _), (3, _), (0, _), (1, _), (2, _)]) 0 d_Mo_open_168 rfl (nI_1 i) (by decide) rfl ?_
                refine z_goto 125 d_Mo_open_171 (by decide) ?_
                exact ih_125 (i + 1) _ _ (by omega) (by omega) hM3b (hK3.note (zor_bb eb _)) (hF3.tr hF3b)
          exact key_125 (nk + 1) 0 _ _ (by omega) (by omega) hM4 mNt.z hF4
        · skip
          refine z_aload_n 2 d_Mo_open_93 rfl rfl ?_
          refine z_dup d_Mo_open_94 rfl ?_
          refine z_get zc_Mo 4 (by decide) qF_Mo_178 hM2.mo rfl d_Mo_open_95 ?_
          refine z_iconst (v := 1) d_Mo_open_98 (by decide) ?_
          refine z_iadd d_Mo_open_99 ?_
          refine z_put zc_Mo 4 (by decide) qF_Mo_178 hM2.mo rfl rfl rfl (Nat.le_of_ble_eq_true rfl) d_Mo_open_100 ?_
          obtain ⟨hM3, hF3⟩ := hM2.put0 (V2 0 0) (V2 0 1) (V2 0 2) (V2 0 3) (V2 0 4 + 1) (V2 0 5)
          replace hF3 := hF2.tr hF3
          refine z_aload_n 2 d_Mo_open_103 rfl rfl ?_
          refine z_bipush (v := 6) d_Mo_open_104 (by decide) ?_
          refine z_iload_n 3 d_Mo_open_106 rfl rfl ?_
          refine z_callVp1 ((m_Mo_writeE hs0 hst hM3 _ _)) ym_Mo_write qM_Mo_143 qI_Mo_write qV_Mo_Mo_write zc_Mo hM3.mo d_Mo_open_107 rfl (Nat.le_of_ble_eq_true rfl) ⟨by decide, by decide⟩ ⟨Nat.le_of_ble_eq_true rfl, Nat.le_of_ble_eq_true rfl⟩ (fun r_107 G_107 hp_107 => ?_)
          obtain ⟨hr_107, B7, V7, ne7, ec7, hM7, hK7, hN7, hF7, hB7⟩ := hp_107
          obtain rfl : r_107 = none := hr_107
          refine z_bipush (v := (-2)) d_Mo_open_110 (by decide) ?_
          exact z_iret rfl (Or.inr ⟨si, hsi, rfl, Or.inr ⟨g, hg, rfl, V1, B7, V7, ne7, ec7, hK1, hT1, ⟨t, ht1, ht4, ht, Or.inr (Or.inl ⟨(zb_n0 _).mp c_62, (zb_0 _).mp (by first | exact c_90 | exact Decidable.not_not.mp c_90), rfl, V2, hK2, hK7⟩)⟩, hM7, mNw.rf.tr hN7 (hF3) hM.ne0, (hF3).tr hF7⟩⟩) (by first | decide | omega) (by first | decide | omega) d_Mo_open_112
      · skip
        refine z_aload_n 2 d_Mo_open_65 rfl rfl ?_
        refine z_dup d_Mo_open_66 rfl ?_
        refine z_get zc_Mo 3 (by decide) qF_Mo_175 hM1.mo rfl d_Mo_open_67 ?_
        refine z_iconst (v := 1) d_Mo_open_70 (by decide) ?_
        refine z_iadd d_Mo_open_71 ?_
        refine z_put zc_Mo 3 (by decide) qF_Mo_175 hM1.mo rfl rfl rfl (Nat.le_of_ble_eq_true rfl) d_Mo_open_72 ?_
        obtain ⟨hM3, hF3⟩ := hM1.put0 (V1 0 0) (V1 0 1) (V1 0 2) (V1 0 3 + 1) (V1 0 4) (V1 0 5)
        replace hF3 := hF1.tr hF3
        refine z_aload_n 2 d_Mo_open_75 rfl rfl ?_
        refine z_iconst (v := 5) d_Mo_open_76 (by decide) ?_
        refine z_iload_n 3 d_Mo_open_77 rfl rfl ?_
        refine z_callVp1 ((m_Mo_writeE hs0 hst hM3 _ _)) ym_Mo_write qM_Mo_143 qI_Mo_write qV_Mo_Mo_write zc_Mo hM3.mo d_Mo_open_78 rfl (Nat.le_of_ble_eq_true rfl) ⟨by decide, by decide⟩ ⟨Nat.le_of_ble_eq_true rfl, Nat.le_of_ble_eq_true rfl⟩ (fun r_78 G_78 hp_78 => ?_)
        obtain ⟨hr_78, B7, V7, ne7, ec7, hM7, hK7, hN7, hF7, hB7⟩ := hp_78
        obtain rfl : r_78 = none := hr_78
        refine z_iconst (v := (-1)) d_Mo_open_81 (by decide) ?_
        exact z_iret rfl (Or.inr ⟨si, hsi, rfl, Or.inr ⟨g, hg, rfl, V1, B7, V7, ne7, ec7, hK1, hT1, ⟨t, ht1, ht4, ht, Or.inl ⟨(zb_0 _).mp (by first | exact c_62 | exact Decidable.not_not.mp c_62), rfl, hK7⟩⟩, hM7, mNw.rf.tr hN7 (hF3) hM.ne0, (hF3).tr hF7⟩⟩) (by first | decide | omega) (by first | decide | omega) d_Mo_open_82
    · skip
      refine z_aload_n 0 d_Mo_open_27 rfl rfl ?_
      refine z_iconst (v := 2) d_Mo_open_28 (by decide) ?_
      refine z_callV0 (m_Mo_no hs0 hst hM1.mo 2) ym_Mo_no qM_Mo_119 qI_Mo_no qV_Mo_Mo_no zc_Mo hM1.mo d_Mo_open_29 rfl (Nat.le_of_ble_eq_true rfl) ⟨by decide, by decide⟩ ⟨Nat.le_of_ble_eq_true rfl, Nat.le_of_ble_eq_true rfl⟩ ?_
      obtain ⟨V9, hM9, hK9, hF9, hT9⟩ := hM1.putT 2
      exact z_iret rfl (Or.inr ⟨si, hsi, rfl, Or.inl ⟨(zb_0 _).mp (by first | exact c_24 | exact Decidable.not_not.mp c_24), ⟨rfl, V9, hM9, hT9, hK1.tr hK9, hF1.tr hF9⟩⟩⟩) (by first | decide | omega) (by first | decide | omega) d_Mo_open_32
  · skip
    refine z_aload_n 0 d_Mo_open_13 rfl rfl ?_
    refine z_iconst (v := 1) d_Mo_open_14 (by decide) ?_
    refine z_callV0 (m_Mo_no hs0 hst hM1.mo 1) ym_Mo_no qM_Mo_119 qI_Mo_no qV_Mo_Mo_no zc_Mo hM1.mo d_Mo_open_15 rfl (Nat.le_of_ble_eq_true rfl) ⟨by decide, by decide⟩ ⟨Nat.le_of_ble_eq_true rfl, Nat.le_of_ble_eq_true rfl⟩ ?_
    obtain ⟨V9, hM9, hK9, hF9, hT9⟩ := hM1.putT 1
    exact z_iret rfl (Or.inl ⟨(zb_0 _).mp (by first | exact c_10 | exact Decidable.not_not.mp c_10), ⟨rfl, V9, hM9, hT9, hK1.tr hK9, hF1.tr hF9⟩⟩) (by first | decide | omega) (by first | decide | omega) d_Mo_open_18

theorem shl_N : ∀ k, k < 8 → (1 : Int32) <<< (nI k &&& 31) = nI (2 ^ k) ∧ 2 ^ k < 256 ∧ ∀ j, j < 9 → (2 ^ k).testBit j = decide (j = k) := by decide +kernel
/-- a keeper taken out of a set -/
def mwo (q ki : Nat) : Nat := zsetN (fun k => q.testBit k && !(2 ^ ki).testBit k) 9
theorem mwo_e {q ki : Nat} (hq : q < 256) (hk : ki < 8) : nI q &&& (((1 : Int32) <<< (nI ki &&& 31)) ^^^ (-1)) = nI (mwo q ki) := by
  obtain ⟨e, h, -⟩ := shl_N ki hk
  rw [e]
  exact nI_andn (by omega) (by omega)
theorem mwo_le {q ki : Nat} (hq : q < 256) : mwo q ki ≤ q := by
  have := zsN_le (f := fun k => q.testBit k && !(2 ^ ki).testBit k) (g := fun k => q.testBit k) 9 (fun k _ h1 => by rw [Bool.and_eq_true] at h1; exact h1.1)
  rw [zsN_self q (by omega)] at this
  exact this
theorem mwo_at {q ki k : Nat} (hk : k < 9) : (mwo q ki).testBit k = (q.testBit k && !(2 ^ ki).testBit k) := by
  unfold mwo
  rw [zsN_at _ 9 (by decide) k hk, decide_eq_true hk, Bool.true_and]
theorem mwo_same {q ki : Nat} (hq : q < 256) (hk : ki < 8) (h : q.testBit ki = false) : mwo q ki = q := by
  refine tb_ext (by have := mwo_le (ki := ki) hq; omega) (by omega) fun k h9 => ?_
  rw [mwo_at h9, (shl_N ki hk).2.2 k h9]
  by_cases e : k = ki
  · subst e; rw [h]; rfl
  · rw [decide_eq_false e]; exact Bool.and_true _
/-- tainted, where one of a set lies, among the first i -/
def mTt (V V' : Nat → Nat → Int32) (si : Nat) (b0 : Bool) (set : Int32) (i : Nat) : Prop := (∀ r, r ≠ 200 + si → V' r = V r) ∧ (∀ j, j ≤ 4 → V' (200 + si) j = V (200 + si) j) ∧ V' (200 + si) 5 = zb (b0 || zany (fun k => zbt set k && decide (V (100 + k) 3 ≠ 0)) i)
theorem mTt.s {V V2 : Nat → Nat → Int32} {si i : Nat} {b0 : Bool} {set : Int32} (h : mTt V V2 si b0 set i) : mTt V (rset V2 (200 + si) (zs6 (V2 (200 + si)) (V2 (200 + si) 3) (V2 (200 + si) 4) (zb (b0 || zany (fun k => zbt set k && decide (V (100 + k) 3 ≠ 0)) (i + 1))))) si b0 set (i + 1) := by
  obtain ⟨h1, h2, h3⟩ := h
  refine ⟨fun r hr => by rw [rset_n hr]; exact h1 r hr, fun j hj => ?_, by rw [rset_s]; rfl⟩
  rw [rset_s, ← h2 j hj]
  have : j = 0 ∨ j = 1 ∨ j = 2 ∨ j = 3 ∨ j = 4 := by omega
  rcases this with rfl | rfl | rfl | rfl | rfl <;> rfl
def mRb (V1 V' : Nat → Nat → Int32) (nk ne ne' si ki g : Nat) (x : Int32) (r : Option Value) : Prop := ∃ t V4 V6 V7 V8 b0, 1 ≤ t ∧ t ≤ 4 ∧ V1 (200 + si) 0 = nI t ∧ rgd (V1 7) (mgv V1 si) t (mgr V1 si g) = true ∧ zKp msc V1 V4 ∧ V4 (200 + si) 5 = zb b0 ∧
  V6 = rset (rset V4 (300 + si) (upd (V4 (300 + si)) ki (zth (V1 7) (gvs (mgv V1 si)) (nI (2 * (rmb (V1 7) (mgv V1 si) t (mgr V1 si g) (mgr V1 si g)).1)) (nI (ki + 1))))) (400 + si) (upd (V4 (400 + si)) ki (V4 (200 + si) 3)) ∧
  mTt V6 V7 si b0 (nI (mgr V1 si g)) 8 ∧ mEn V7 V8 ne ne' 3 x ∧ V' = rset V8 0 (zm6 (V8 0 0) (V8 0 1) (V8 0 2) (V8 0 3) (V8 0 4) (V8 0 5 + nI (zpop 9 (mgr V1 si g)) * nI (zpop 9 (mgr V1 si g)))) ∧ r = some (.int (nI (zpop 9 (mgr V1 si g)) * nI (zpop 9 (mgr V1 si g))))

theorem d_Mo_rebuild_0 : decode c_Mo_rebuild 0 = .ok (.aload_n 0, 1) := by decide +kernel
theorem d_Mo_rebuild_1 : decode c_Mo_rebuild 1 = .ok (.iconst 0, 1) := by decide +kernel
theorem d_Mo_rebuild_2 : decode c_Mo_rebuild 2 = .ok (.putfield 36, 3) := by decide +kernel
theorem d_Mo_rebuild_5 : decode c_Mo_rebuild 5 = .ok (.aload_n 0, 1) := by decide +kernel
theorem d_Mo_rebuild_6 : decode c_Mo_rebuild 6 = .ok (.iload_n 1, 1) := by decide +kernel
theorem d_Mo_rebuild_7 : decode c_Mo_rebuild 7 = .ok (.invokevirtual 147, 3) := by decide +kernel
theorem d_Mo_rebuild_10 : decode c_Mo_rebuild 10 = .ok (.ifCond .eq 11, 3) := by decide +kernel
theorem d_Mo_rebuild_13 : decode c_Mo_rebuild 13 = .ok (.aload_n 0, 1) := by decide +kernel
theorem d_Mo_rebuild_14 : decode c_Mo_rebuild 14 = .ok (.iload_n 2, 1) := by decide +kernel
theorem d_Mo_rebuild_15 : decode c_Mo_rebuild 15 = .ok (.invokevirtual 125, 3) := by decide +kernel
theorem d_Mo_rebuild_18 : decode c_Mo_rebuild 18 = .ok (.ifCond .ne 9, 3) := by decide +kernel
theorem d_Mo_rebuild_21 : decode c_Mo_rebuild 21 = .ok (.aload_n 0, 1) := by decide +kernel
theorem d_Mo_rebuild_22 : decode c_Mo_rebuild 22 = .ok (.iconst 1, 1) := by decide +kernel
theorem d_Mo_rebuild_23 : decode c_Mo_rebuild 23 = .ok (.invokevirtual 119, 3) := by decide +kernel
theorem d_Mo_rebuild_26 : decode c_Mo_rebuild 26 = .ok (.ireturn, 1) := by decide +kernel
theorem d_Mo_rebuild_27 : decode c_Mo_rebuild 27 = .ok (.aload_n 0, 1) := by decide +kernel
theorem d_Mo_rebuild_28 : decode c_Mo_rebuild 28 = .ok (.iload_n 3, 1) := by decide +kernel
theorem d_Mo_rebuild_29 : decode c_Mo_rebuild 29 = .ok (.invokevirtual 129, 3) := by decide +kernel
theorem d_Mo_rebuild_32 : decode c_Mo_rebuild 32 = .ok (.ifCond .ne 9, 3) := by decide +kernel
theorem d_Mo_rebuild_35 : decode c_Mo_rebuild 35 = .ok (.aload_n 0, 1) := by decide +kernel
theorem d_Mo_rebuild_36 : decode c_Mo_rebuild 36 = .ok (.iconst 2, 1) := by decide +kernel
theorem d_Mo_rebuild_37 : decode c_Mo_rebuild 37 = .ok (.invokevirtual 119, 3) := by decide +kernel
theorem d_Mo_rebuild_40 : decode c_Mo_rebuild 40 = .ok (.ireturn, 1) := by decide +kernel
theorem d_Mo_rebuild_41 : decode c_Mo_rebuild 41 = .ok (.aload_n 0, 1) := by decide +kernel
theorem d_Mo_rebuild_42 : decode c_Mo_rebuild 42 = .ok (.getfield 20, 3) := by decide +kernel
theorem d_Mo_rebuild_45 : decode c_Mo_rebuild 45 = .ok (.iload_n 1, 1) := by decide +kernel
theorem d_Mo_rebuild_46 : decode c_Mo_rebuild 46 = .ok (.invokeinterface 51 2, 5) := by decide +kernel
theorem d_Mo_rebuild_51 : decode c_Mo_rebuild 51 = .ok (.checkcast 47, 3) := by decide +kernel
theorem d_Mo_rebuild_54 : decode c_Mo_rebuild 54 = .ok (.astore 4, 2) := by decide +kernel
theorem d_Mo_rebuild_56 : decode c_Mo_rebuild 56 = .ok (.aload_n 0, 1) := by decide +kernel
theorem d_Mo_rebuild_57 : decode c_Mo_rebuild 57 = .ok (.aload 4, 2) := by decide +kernel
theorem d_Mo_rebuild_59 : decode c_Mo_rebuild 59 = .ok (.iload_n 3, 1) := by decide +kernel
theorem d_Mo_rebuild_60 : decode c_Mo_rebuild 60 = .ok (.invokevirtual 150, 3) := by decide +kernel
theorem d_Mo_rebuild_63 : decode c_Mo_rebuild 63 = .ok (.iconst 1, 1) := by decide +kernel
theorem d_Mo_rebuild_64 : decode c_Mo_rebuild 64 = .ok (.iload_n 2, 1) := by decide +kernel
theorem d_Mo_rebuild_65 : decode c_Mo_rebuild 65 = .ok (.ishl, 1) := by decide +kernel
theorem d_Mo_rebuild_66 : decode c_Mo_rebuild 66 = .ok (.iconst (-1), 1) := by decide +kernel
theorem d_Mo_rebuild_67 : decode c_Mo_rebuild 67 = .ok (.ixor, 1) := by decide +kernel
theorem d_Mo_rebuild_68 : decode c_Mo_rebuild 68 = .ok (.iand, 1) := by decide +kernel
theorem d_Mo_rebuild_69 : decode c_Mo_rebuild 69 = .ok (.istore 5, 2) := by decide +kernel
theorem d_Mo_rebuild_71 : decode c_Mo_rebuild 71 = .ok (.aload 4, 2) := by decide +kernel
theorem d_Mo_rebuild_73 : decode c_Mo_rebuild 73 = .ok (.iload_n 2, 1) := by decide +kernel
theorem d_Mo_rebuild_74 : decode c_Mo_rebuild 74 = .ok (.invokevirtual 159, 3) := by decide +kernel
theorem d_Mo_rebuild_77 : decode c_Mo_rebuild 77 = .ok (.ifCond .ne 14, 3) := by decide +kernel
theorem d_Mo_rebuild_80 : decode c_Mo_rebuild 80 = .ok (.aload_n 0, 1) := by decide +kernel
theorem d_Mo_rebuild_81 : decode c_Mo_rebuild 81 = .ok (.aload 4, 2) := by decide +kernel
theorem d_Mo_rebuild_83 : decode c_Mo_rebuild 83 = .ok (.iload 5, 2) := by decide +kernel
theorem d_Mo_rebuild_85 : decode c_Mo_rebuild 85 = .ok (.invokevirtual 162, 3) := by decide +kernel
theorem d_Mo_rebuild_88 : decode c_Mo_rebuild 88 = .ok (.ifCond .ne 9, 3) := by decide +kernel
theorem d_Mo_rebuild_91 : decode c_Mo_rebuild 91 = .ok (.aload_n 0, 1) := by decide +kernel
theorem d_Mo_rebuild_92 : decode c_Mo_rebuild 92 = .ok (.iconst 3, 1) := by decide +kernel
theorem d_Mo_rebuild_93 : decode c_Mo_rebuild 93 = .ok (.invokevirtual 119, 3) := by decide +kernel
theorem d_Mo_rebuild_96 : decode c_Mo_rebuild 96 = .ok (.ireturn, 1) := by decide +kernel
theorem d_Mo_rebuild_97 : decode c_Mo_rebuild 97 = .ok (.aload 4, 2) := by decide +kernel
theorem d_Mo_rebuild_99 : decode c_Mo_rebuild 99 = .ok (.getfield 46, 3) := by decide +kernel
theorem d_Mo_rebuild_102 : decode c_Mo_rebuild 102 = .ok (.iload_n 2, 1) := by decide +kernel
theorem d_Mo_rebuild_103 : decode c_Mo_rebuild 103 = .ok (.aload_n 0, 1) := by decide +kernel
theorem d_Mo_rebuild_104 : decode c_Mo_rebuild 104 = .ok (.aload 4, 2) := by decide +kernel
theorem d_Mo_rebuild_106 : decode c_Mo_rebuild 106 = .ok (.aload_n 0, 1) := by decide +kernel
theorem d_Mo_rebuild_107 : decode c_Mo_rebuild 107 = .ok (.aload 4, 2) := by decide +kernel
theorem d_Mo_rebuild_109 : decode c_Mo_rebuild 109 = .ok (.iload 5, 2) := by decide +kernel
theorem d_Mo_rebuild_111 : decode c_Mo_rebuild 111 = .ok (.invokevirtual 91, 3) := by decide +kernel
theorem d_Mo_rebuild_114 : decode c_Mo_rebuild 114 = .ok (.iload_n 2, 1) := by decide +kernel
theorem d_Mo_rebuild_115 : decode c_Mo_rebuild 115 = .ok (.iconst 1, 1) := by decide +kernel
theorem d_Mo_rebuild_116 : decode c_Mo_rebuild 116 = .ok (.iadd, 1) := by decide +kernel
theorem d_Mo_rebuild_117 : decode c_Mo_rebuild 117 = .ok (.invokevirtual 88, 3) := by decide +kernel
theorem d_Mo_rebuild_120 : decode c_Mo_rebuild 120 = .ok (.iastore, 1) := by decide +kernel
theorem d_Mo_rebuild_121 : decode c_Mo_rebuild 121 = .ok (.aload 4, 2) := by decide +kernel
theorem d_Mo_rebuild_123 : decode c_Mo_rebuild 123 = .ok (.getfield 140, 3) := by decide +kernel
theorem d_Mo_rebuild_126 : decode c_Mo_rebuild 126 = .ok (.iload_n 2, 1) := by decide +kernel
theorem d_Mo_rebuild_127 : decode c_Mo_rebuild 127 = .ok (.aload 4, 2) := by decide +kernel
theorem d_Mo_rebuild_129 : decode c_Mo_rebuild 129 = .ok (.getfield 153, 3) := by decide +kernel
theorem d_Mo_rebuild_132 : decode c_Mo_rebuild 132 = .ok (.iastore, 1) := by decide +kernel
theorem d_Mo_rebuild_133 : decode c_Mo_rebuild 133 = .ok (.iconst 0, 1) := by decide +kernel
theorem d_Mo_rebuild_134 : decode c_Mo_rebuild 134 = .ok (.istore 6, 2) := by decide +kernel
theorem d_Mo_rebuild_136 : decode c_Mo_rebuild 136 = .ok (.iload 6, 2) := by decide +kernel
theorem d_Mo_rebuild_138 : decode c_Mo_rebuild 138 = .ok (.bipush 8, 2) := by decide +kernel
theorem d_Mo_rebuild_140 : decode c_Mo_rebuild 140 = .ok (.if_icmp .ge 54, 3) := by decide +kernel
theorem d_Mo_rebuild_143 : decode c_Mo_rebuild 143 = .ok (.aload 4, 2) := by decide +kernel
theorem d_Mo_rebuild_145 : decode c_Mo_rebuild 145 = .ok (.dup, 1) := by decide +kernel
theorem d_Mo_rebuild_146 : decode c_Mo_rebuild 146 = .ok (.getfield 165, 3) := by decide +kernel
theorem d_Mo_rebuild_149 : decode c_Mo_rebuild 149 = .ok (.iload 5, 2) := by decide +kernel
theorem d_Mo_rebuild_151 : decode c_Mo_rebuild 151 = .ok (.iload 6, 2) := by decide +kernel
theorem d_Mo_rebuild_153 : decode c_Mo_rebuild 153 = .ok (.invokestatic 76, 3) := by decide +kernel
theorem d_Mo_rebuild_156 : decode c_Mo_rebuild 156 = .ok (.ifCond .eq 27, 3) := by decide +kernel
theorem d_Mo_rebuild_159 : decode c_Mo_rebuild 159 = .ok (.aload_n 0, 1) := by decide +kernel
theorem d_Mo_rebuild_160 : decode c_Mo_rebuild 160 = .ok (.getfield 16, 3) := by decide +kernel
theorem d_Mo_rebuild_163 : decode c_Mo_rebuild 163 = .ok (.iload 6, 2) := by decide +kernel
theorem d_Mo_rebuild_165 : decode c_Mo_rebuild 165 = .ok (.invokeinterface 51 2, 5) := by decide +kernel
theorem d_Mo_rebuild_170 : decode c_Mo_rebuild 170 = .ok (.checkcast 57, 3) := by decide +kernel
theorem d_Mo_rebuild_173 : decode c_Mo_rebuild 173 = .ok (.getfield 59, 3) := by decide +kernel
theorem d_Mo_rebuild_176 : decode c_Mo_rebuild 176 = .ok (.ifCond .eq 7, 3) := by decide +kernel
theorem d_Mo_rebuild_179 : decode c_Mo_rebuild 179 = .ok (.iconst 1, 1) := by decide +kernel
theorem d_Mo_rebuild_180 : decode c_Mo_rebuild 180 = .ok (.goto 4, 3) := by decide +kernel
theorem d_Mo_rebuild_183 : decode c_Mo_rebuild 183 = .ok (.iconst 0, 1) := by decide +kernel
theorem d_Mo_rebuild_184 : decode c_Mo_rebuild 184 = .ok (.ior, 1) := by decide +kernel
theorem d_Mo_rebuild_185 : decode c_Mo_rebuild 185 = .ok (.putfield 165, 3) := by decide +kernel
theorem d_Mo_rebuild_188 : decode c_Mo_rebuild 188 = .ok (.iinc 6 1, 3) := by decide +kernel
theorem d_Mo_rebuild_191 : decode c_Mo_rebuild 191 = .ok (.goto (-55), 3) := by decide +kernel
theorem d_Mo_rebuild_194 : decode c_Mo_rebuild 194 = .ok (.aload_n 0, 1) := by decide +kernel
theorem d_Mo_rebuild_195 : decode c_Mo_rebuild 195 = .ok (.iconst 3, 1) := by decide +kernel
theorem d_Mo_rebuild_196 : decode c_Mo_rebuild 196 = .ok (.iload_n 1, 1) := by decide +kernel
theorem d_Mo_rebuild_197 : decode c_Mo_rebuild 197 = .ok (.invokevirtual 143, 3) := by decide +kernel
theorem d_Mo_rebuild_200 : decode c_Mo_rebuild 200 = .ok (.aload_n 0, 1) := by decide +kernel
theorem d_Mo_rebuild_201 : decode c_Mo_rebuild 201 = .ok (.dup, 1) := by decide +kernel
theorem d_Mo_rebuild_202 : decode c_Mo_rebuild 202 = .ok (.getfield 169, 3) := by decide +kernel
theorem d_Mo_rebuild_205 : decode c_Mo_rebuild 205 = .ok (.iload 5, 2) := by decide +kernel
theorem d_Mo_rebuild_207 : decode c_Mo_rebuild 207 = .ok (.invokestatic 66, 3) := by decide +kernel
theorem d_Mo_rebuild_210 : decode c_Mo_rebuild 210 = .ok (.iload 5, 2) := by decide +kernel
theorem d_Mo_rebuild_212 : decode c_Mo_rebuild 212 = .ok (.invokestatic 66, 3) := by decide +kernel
theorem d_Mo_rebuild_215 : decode c_Mo_rebuild 215 = .ok (.imul, 1) := by decide +kernel
theorem d_Mo_rebuild_216 : decode c_Mo_rebuild 216 = .ok (.iadd, 1) := by decide +kernel
theorem d_Mo_rebuild_217 : decode c_Mo_rebuild 217 = .ok (.putfield 169, 3) := by decide +kernel
theorem d_Mo_rebuild_220 : decode c_Mo_rebuild 220 = .ok (.iload 5, 2) := by decide +kernel
theorem d_Mo_rebuild_222 : decode c_Mo_rebuild 222 = .ok (.invokestatic 66, 3) := by decide +kernel
theorem d_Mo_rebuild_225 : decode c_Mo_rebuild 225 = .ok (.iload 5, 2) := by decide +kernel
theorem d_Mo_rebuild_227 : decode c_Mo_rebuild 227 = .ok (.invokestatic 66, 3) := by decide +kernel
theorem d_Mo_rebuild_230 : decode c_Mo_rebuild 230 = .ok (.imul, 1) := by decide +kernel
theorem d_Mo_rebuild_231 : decode c_Mo_rebuild 231 = .ok (.ireturn, 1) := by decide +kernel
set_option maxHeartbeats 4000000 in
set_option maxRecDepth 100000 in
theorem m_Mo_rebuildE {g0 : State} {d : zD} {l : Launch} {a0 : Array Value} (hs0 : zS0 d a0 g0) (hst : l.stackTraces = false) {G : zG} {B : Nat → Nat} {V : Nat → Nat → Int32} {nk ns ne ec : Nat} (hM : zM d B V nk ns ne ec G) (x z set : Int32) {iv : Nat → Nat} (hok : mOk V nk ns iv) : zMet g0 d l y_Mo_rebuild c_Mo_rebuild 7 ((Option.some Jvm.ClassFile.FieldType.int)) 16 2 84 [.ref (B 0), .int x, .int z, .int set] (G) (fun r G1 => ((zin x 0 (nI ns - 1) = false ∨ zin z 0 (nI nk - 1) = false) ∧ mThr d B nk ns ne ec V G 1 r G1) ∨ (∃ s9, s9 < ns ∧ x = nI s9 ∧ ∃ k9, k9 < nk ∧ z = nI k9 ∧ ((zsetok nk set = false ∧ mThr d B nk ns ne ec V G 2 r G1) ∨ (∃ g9, g9 < 2 ^ nk ∧ set = nI g9 ∧ ∃ V1, zKn V V1 ∧ V1 0 0 = 0 ∧ (((zgd (V1 (300 + s9)) (V1 (400 + s9)) (V1 (200 + s9) 3) k9 = true ∨ (zgd (V1 (300 + s9)) (V1 (400 + s9)) (V1 (200 + s9) 3) k9 = false ∧ ∃ t, 1 ≤ t ∧ t ≤ 4 ∧ V1 (200 + s9) 0 = nI t ∧ rgd (V1 7) (mgv V1 s9) t (mgr V1 s9 g9) = false)) ∧ mThr d B nk ns ne ec V G 3 r G1) ∨ (zgd (V1 (300 + s9)) (V1 (400 + s9)) (V1 (200 + s9) 3) k9 = false ∧ ∃ B' V' ne' ec', mRb V1 V' nk ne ne' s9 k9 g9 x r ∧ zM d B' V' nk ns ne' ec' G1 ∧ mNw B B' nk ns ne nk ns ne' G ∧ mFr B nk ns ne G G1)))))) (zNo) := by
  have hnk : nk ≤ 8 := hM.2.1
  have hns : ns ≤ 6 := hM.2.2.1
  have hne : ne ≤ 64 := hM.2.2.2.1
  have hp2 : 2 ^ nk ≤ 256 := Nat.pow_le_pow_right (n := 2) (by decide) hnk
  refine z_entry hs0 hst (by decide) (Nat.le_of_ble_eq_true rfl) (fun p e s m args below meth c => ?_)
  refine z_aload_n 0 d_Mo_rebuild_0 rfl rfl ?_
  refine z_iconst (v := 0) d_Mo_rebuild_1 (by decide) ?_
  refine z_put zc_Mo 0 (by decide) qF_Mo_36 hM.mo rfl rfl rfl (Nat.le_of_ble_eq_true rfl) d_Mo_rebuild_2 ?_
  obtain ⟨V1, hM1, hK1, hF1, hT1⟩ := hM.putT 0
  refine z_aload_n 0 d_Mo_rebuild_5 rfl rfl ?_
  refine z_iload_n 1 d_Mo_rebuild_6 rfl rfl ?_
  refine z_callV0 (m_Mo_isSecret hs0 hst hM1 x) ym_Mo_isSecret qM_Mo_147 qI_Mo_isSecret qV_Mo_Mo_isSecret zc_Mo hM1.mo d_Mo_rebuild_7 rfl (Nat.le_of_ble_eq_true rfl) ⟨by decide, by decide⟩ ⟨Nat.le_of_ble_eq_true rfl, Nat.le_of_ble_eq_true rfl⟩ ?_
  refine z_if_eq 21 d_Mo_rebuild_10 (by decide) (fun c_10 => ?_) (fun c_10 => ?_)
  · skip
    refine z_aload_n 0 d_Mo_rebuild_21 rfl rfl ?_
    refine z_iconst (v := 1) d_Mo_rebuild_22 (by decide) ?_
    refine z_callV0 (m_Mo_no hs0 hst hM1.mo 1) ym_Mo_no qM_Mo_119 qI_Mo_no qV_Mo_Mo_no zc_Mo hM1.mo d_Mo_rebuild_23 rfl (Nat.le_of_ble_eq_true rfl) ⟨by decide, by decide⟩ ⟨Nat.le_of_ble_eq_true rfl, Nat.le_of_ble_eq_true rfl⟩ ?_
    obtain ⟨V9, hM9, hK9, hF9, hT9⟩ := hM1.putT 1
    exact z_iret rfl (Or.inl ⟨by first | exact Or.inl ((zb_0 _).mp c_10) | exact Or.inr ((zb_0 _).mp (by first | exact c_18 | exact Decidable.not_not.mp c_18)), ⟨rfl, V9, hM9, hT9, hK1.tr hK9, hF1.tr hF9⟩⟩) (by first | decide | omega) (by first | decide | omega) d_Mo_rebuild_26
  · skip
    obtain ⟨si, hsi, rfl⟩ := zin_n ((zb_n0 _).mp c_10) (by omega)
    refine z_aload_n 0 d_Mo_rebuild_13 rfl rfl ?_
    refine z_iload_n 2 d_Mo_rebuild_14 rfl rfl ?_
    refine z_callV0 (m_Mo_isKeeper hs0 hst hM1 z) ym_Mo_isKeeper qM_Mo_125 qI_Mo_isKeeper qV_Mo_Mo_isKeeper zc_Mo hM1.mo d_Mo_rebuild_15 rfl (Nat.le_of_ble_eq_true rfl) ⟨by decide, by decide⟩ ⟨Nat.le_of_ble_eq_true rfl, Nat.le_of_ble_eq_true rfl⟩ ?_
    refine z_if_ne 27 d_Mo_rebuild_18 (by decide) (fun c_18 => ?_) (fun c_18 => ?_)
    · skip
      obtain ⟨ki, hki, rfl⟩ := zin_n ((zb_n0 _).mp c_18) (by omega)
      have hk8 : ki < 8 := by omega
      refine z_aload_n 0 d_Mo_rebuild_27 rfl rfl ?_
      refine z_iload_n 3 d_Mo_rebuild_28 rfl rfl ?_
      refine z_callV0 (m_Mo_isSet hs0 hst hM1 set) ym_Mo_isSet qM_Mo_129 qI_Mo_isSet qV_Mo_Mo_isSet zc_Mo hM1.mo d_Mo_rebuild_29 rfl (Nat.le_of_ble_eq_true rfl) ⟨by decide, by decide⟩ ⟨Nat.le_of_ble_eq_true rfl, Nat.le_of_ble_eq_true rfl⟩ ?_
      refine z_if_ne 41 d_Mo_rebuild_32 (by decide) (fun c_32 => ?_) (fun c_32 => ?_)
      · skip
        obtain ⟨g, hg, rfl⟩ := zsetok_le hnk ((zb_n0 _).mp c_32)
        refine z_aload_n 0 d_Mo_rebuild_41 rfl rfl ?_
        refine z_get zc_Mo 7 (by decide) qF_Mo_20 hM1.mo rfl d_Mo_rebuild_42 ?_
        refine z_iload_n 1 d_Mo_rebuild_45 rfl rfl ?_
        refine z_callF0 (m_AL_get hs0 hst (hM1.sA hsi) hsi (if_pos hsi)) ym_AL_get zF_AL_get qM_Mo_51 zc_AL (hM1.sA hsi).1 d_Mo_rebuild_46 rfl (Nat.le_of_ble_eq_true rfl) ⟨by decide, by decide⟩ ⟨Nat.le_of_ble_eq_true rfl, Nat.le_of_ble_eq_true rfl⟩ ?_
        refine z_castS zc_MS qK_Mo_47 (hM1.se hsi).1 d_Mo_rebuild_51 ?_
        refine z_astore (L' := [(4, _), (0, _), (1, _), (2, _), (3, _)]) d_Mo_rebuild_54 (by decide) rfl ?_
        have hok1 := hK1.ok hok
        have hsm := mgr_sm (s := g) hok1 hsi
        have hgq : mgr V1 si g < 2 ^ nk := Nat.lt_of_le_of_lt (mgr_le (by omega)) hg
        obtain ⟨t, ht1, ht4, ht⟩ := hM1.tn hsi
        refine z_aload_n 1 d_Mo_rebuild_56 rfl rfl ?_
        refine z_aload 0 d_Mo_rebuild_57 rfl ?_
        refine z_iload_n 4 d_Mo_rebuild_59 rfl rfl ?_
        refine z_callV0 ((m_Mo_groupE hs0 hst hM1 hsi (g := g) (by omega))) ym_Mo_group qM_Mo_150 qI_Mo_group qV_Mo_Mo_group zc_Mo hM1.mo d_Mo_rebuild_60 rfl (Nat.le_of_ble_eq_true rfl) ⟨by decide, by decide⟩ ⟨Nat.le_of_ble_eq_true rfl, Nat.le_of_ble_eq_true rfl⟩ ?_
        refine z_iconst (v := 1) d_Mo_rebuild_63 (by decide) ?_
        refine z_iload_n 3 d_Mo_rebuild_64 rfl rfl ?_
        refine z_ishl d_Mo_rebuild_65 ?_
        refine z_iconst (v := (-1)) d_Mo_rebuild_66 (by decide) ?_
        refine z_ixor d_Mo_rebuild_67 ?_
        refine z_iand d_Mo_rebuild_68 ?_
        refine z_topv (mwo_e mgr_lt hk8) ?_
        refine z_istore (L' := [(5, _), (4, _), (0, _), (1, _), (2, _), (3, _)]) d_Mo_rebuild_69 (by decide) rfl ?_
        refine z_aload 1 d_Mo_rebuild_71 rfl ?_
        refine z_iload_n 4 d_Mo_rebuild_73 rfl rfl ?_
        refine z_callV0 (m_MS_isGood hs0 hst (hM1.se hsi) hk8) ym_MS_isGood qM_Mo_159 qI_MS_isGood qV_MS_MS_isGood zc_MS (hM1.se hsi).1 d_Mo_rebuild_74 rfl (Nat.le_of_ble_eq_true rfl) ⟨by decide, by decide⟩ ⟨Nat.le_of_ble_eq_true rfl, Nat.le_of_ble_eq_true rfl⟩ ?_
        refine z_if_ne 91 d_Mo_rebuild_77 (by decide) (fun c_77 => ?_) (fun c_77 => ?_)
        · skip
          obtain ⟨V2, eV⟩ : ∃ v, v = V1 := ⟨_, rfl⟩
          have hM2 := hM1
          rw [← eV] at hM2
          have hK2 : zKp msc V1 V2 := by rw [eV]; exact zKp.rf
          have hF2 := hF1
          have hcond : zgd (V1 (300 + si)) (V1 (400 + si)) (V1 (200 + si) 3) ki = true ∨ (zgd (V1 (300 + si)) (V1 (400 + si)) (V1 (200 + si) 3) ki = false ∧ ∃ t, 1 ≤ t ∧ t ≤ 4 ∧ V1 (200 + si) 0 = nI t ∧ rgd (V1 7) (mgv V1 si) t (mgr V1 si g) = false) := Or.inl ((zb_n0 _).mp c_77)
          refine z_aload_n 2 d_Mo_rebuild_91 rfl rfl ?_
          refine z_iconst (v := 3) d_Mo_rebuild_92 (by decide) ?_
          refine z_callV0 (m_Mo_no hs0 hst hM2.mo 3) ym_Mo_no qM_Mo_119 qI_Mo_no qV_Mo_Mo_no zc_Mo hM2.mo d_Mo_rebuild_93 rfl (Nat.le_of_ble_eq_true rfl) ⟨by decide, by decide⟩ ⟨Nat.le_of_ble_eq_true rfl, Nat.le_of_ble_eq_true rfl⟩ ?_
          obtain ⟨V9, hM9, hK9, hF9, hT9⟩ := hM2.putT 3
          exact z_iret rfl (Or.inr ⟨si, hsi, rfl, ki, hki, rfl, Or.inr ⟨g, hg, rfl, V1, hK1, hT1, Or.inl ⟨hcond, rfl, V9, hM9, hT9, (hK1.tr hK2.m.n).tr hK9, hF2.tr hF9⟩⟩⟩) (by first | decide | omega) (by first | decide | omega) d_Mo_rebuild_96
        · skip
          have hnot : zgd (V1 (300 + si)) (V1 (400 + si)) (V1 (200 + si) 3) ki = false := (zb_0 _).mp c_77
          rw [mwo_same mgr_lt hk8 (by rw [mgr_at hk8, hnot, Bool.false_and])]
          refine z_aload_n 2 d_Mo_rebuild_80 rfl rfl ?_
          refine z_aload 1 d_Mo_rebuild_81 rfl ?_
          refine z_iload 0 d_Mo_rebuild_83 rfl ?_
          refine z_callVp0 ((m_Mo_isGoodE hs0 hst hM1 hsi hgq hsm hok1.1 ht ht4)) ym_Mo_isGood qM_Mo_162 qI_Mo_isGood qV_Mo_Mo_isGood zc_Mo hM1.mo d_Mo_rebuild_85 rfl (Nat.le_of_ble_eq_true rfl) ⟨by decide, by decide⟩ ⟨Nat.le_of_ble_eq_true rfl, Nat.le_of_ble_eq_true rfl⟩ (fun r_85 G_85 hp_85 => ?_)
          obtain ⟨hr_85, V2, hM2, hK2, hF2⟩ := hp_85
          obtain rfl : r_85 = _ := hr_85
          replace hF2 := hF1.tr hF2
          refine z_if_ne 97 d_Mo_rebuild_88 (by decide) (fun c_88 => ?_) (fun c_88 => ?_)
          · skip
            refine z_aload 1 d_Mo_rebuild_97 rfl ?_
            refine z_get zc_MS 6 (by decide) qF_Mo_46 (hM2.se hsi).1 rfl d_Mo_rebuild_99 ?_
            refine z_iload_n 4 d_Mo_rebuild_102 rfl rfl ?_
            refine z_aload_n 2 d_Mo_rebuild_103 rfl rfl ?_
            refine z_aload 1 d_Mo_rebuild_104 rfl ?_
            refine z_aload_n 2 d_Mo_rebuild_106 rfl rfl ?_
            refine z_aload 1 d_Mo_rebuild_107 rfl ?_
            refine z_iload 0 d_Mo_rebuild_109 rfl ?_
            refine z_callVp0 ((m_Mo_bestE hs0 hst hM2 hsi hgq (by rw [hK2.mg]; exact hsm) (by rw [hK2.r (r := 7) (by decide) (by decide)]; exact hok1.1) (by rw [hK2.r (r := 200 + si) (by omega) (by omega)]; exact ht) ht4)) ym_Mo_best qM_Mo_91 qI_Mo_best qV_Mo_Mo_best zc_Mo hM2.mo d_Mo_rebuild_111 rfl (Nat.le_of_ble_eq_true rfl) ⟨by decide, by decide⟩ ⟨Nat.le_of_ble_eq_true rfl, Nat.le_of_ble_eq_true rfl⟩ (fun r_111 G_111 hp_111 => ?_)
            obtain ⟨hr_111, V3, hM3, hK3, hF3⟩ := hp_111
            rw [hK2.mg, hK2.r (r := 7) (by decide) (by decide)] at hr_111
            obtain rfl : r_111 = _ := hr_111
            replace hK3 := hK2.tr hK3
            replace hF3 := hF2.tr hF3
            have hb3 : (rmb (V1 7) (mgv V1 si) t (mgr V1 si g) (mgr V1 si g)).1 < 2 ^ nk := by have := (rmb_in (inv := V1 7) (h := mgv V1 si) (t := t) (g := mgr V1 si g) (mgr V1 si g)).1; omega
            have hsb : zSm (mgv V1 si) (rmb (V1 7) (mgv V1 si) t (mgr V1 si g) (mgr V1 si g)).1 := hsm.sub (fun k hk h1 => rmb_sub mgr_lt mgr_lt hk h1)
            refine z_iload_n 4 d_Mo_rebuild_114 rfl rfl ?_
            refine z_iconst (v := 1) d_Mo_rebuild_115 (by decide) ?_
            refine z_iadd d_Mo_rebuild_116 ?_
            refine z_topv (nI_1 ki) ?_
            refine z_callVp0 ((m_Mo_alongE hs0 hst hM3 hsi hb3 (x := ki + 1) (by omega) (by rw [hK3.mg]; exact hsb) (by rw [hK3.r (r := 7) (by decide) (by decide)]; exact hok1.1))) ym_Mo_along qM_Mo_88 qI_Mo_along qV_Mo_Mo_along zc_Mo hM3.mo d_Mo_rebuild_117 rfl (Nat.le_of_ble_eq_true rfl) ⟨by decide, by decide⟩ ⟨Nat.le_of_ble_eq_true rfl, Nat.le_of_ble_eq_true rfl⟩ (fun r_117 G_117 hp_117 => ?_)
            obtain ⟨hr_117, V4, hM4, hK4, hF4⟩ := hp_117
            rw [hK3.mg, hK3.r (r := 7) (by decide) (by decide)] at hr_117
            obtain rfl : r_117 = _ := hr_117
            replace hK4 := hK3.tr hK4
            replace hF4 := hF3.tr hF4
            refine z_iastN (hM4.se hsi).2.1 (hk8) (by decide) d_Mo_rebuild_120 ?_
            obtain ⟨hM5, hF5⟩ := hM4.putshE hsi hki (zth (V1 7) (gvs (mgv V1 si)) (nI (2 * (rmb (V1 7) (mgv V1 si) t (mgr V1 si g) (mgr V1 si g)).1)) (nI (ki + 1)))
            obtain ⟨b0, eb0⟩ := hM4.ta hsi
            obtain ⟨V5, hV5⟩ : ∃ v, v = rset V4 (300 + si) (upd (V4 (300 + si)) ki (zth (V1 7) (gvs (mgv V1 si)) (nI (2 * (rmb (V1 7) (mgv V1 si) t (mgr V1 si g) (mgr V1 si g)).1)) (nI (ki + 1)))) := ⟨_, rfl⟩
            rw [← hV5] at hM5
            refine z_aload 1 d_Mo_rebuild_121 rfl ?_
            refine z_get zc_MS 7 (by decide) qF_Mo_140 (hM5.se hsi).1 rfl d_Mo_rebuild_123 ?_
            refine z_iload_n 4 d_Mo_rebuild_126 rfl rfl ?_
            refine z_aload 1 d_Mo_rebuild_127 rfl ?_
            refine z_get zc_MS 3 (by decide) qF_Mo_153 (hM5.se hsi).1 rfl d_Mo_rebuild_129 ?_
            refine z_iastN (hM5.se hsi).2.2.1 (hk8) (by decide) d_Mo_rebuild_132 ?_
            obtain ⟨hM6, hF6⟩ := hM5.putepE hsi (upd (V5 (400 + si)) ki (V5 (200 + si) 3))
            replace hF6 := (hF4.tr hF5).tr hF6
            obtain ⟨V6, eV6⟩ : ∃ v, v = rset V5 (400 + si) (upd (V5 (400 + si)) ki (V5 (200 + si) 3)) := ⟨_, rfl⟩
            rw [← eV6] at hM6
            have hV6 : V6 = rset (rset V4 (300 + si) (upd (V4 (300 + si)) ki (zth (V1 7) (gvs (mgv V1 si)) (nI (2 * (rmb (V1 7) (mgv V1 si) t (mgr V1 si g) (mgr V1 si g)).1)) (nI (ki + 1))))) (400 + si) (upd (V4 (400 + si)) ki (V4 (200 + si) 3)) := by rw [eV6, show V5 (400 + si) = V4 (400 + si) from by rw [hV5, rset_n (by omega)], show V5 (200 + si) = V4 (200 + si) from by rw [hV5, rset_n (by omega)], hV5]
            have hb6 : mTt V6 V6 si b0 (nI (mgr V1 si g)) 0 := ⟨fun _ _ => rfl, fun _ _ => rfl, by rw [hV6, rset_n (by omega), rset_n (by omega), eb0]; exact congrArg zb (Bool.or_false b0).symm⟩
            refine z_iconst (v := (nI 0)) d_Mo_rebuild_133 (by decide) ?_
            refine z_istore (L' := [(6, _), (5, _), (4, _), (0, _), (1, _), (2, _), (3, _)]) d_Mo_rebuild_134 (by decide) rfl ?_
            have key_136 : ∀ (n : Nat) (i : Nat) (G7 : zG) (V7 : Nat → Nat → Int32), 8 - i < n → (i ≤ 8) → (zM d B V7 nk ns ne ec G7) → (mTt V6 V7 si b0 (nI (mgr V1 si g)) i) → (mFr B nk ns ne G G7) → Z g0 d y_Mo_rebuild c_Mo_rebuild 7 ((Option.some Jvm.ClassFile.FieldType.int)) [] p l e (zR 16 2 84) s m args below meth c (vx_MQ below (zQc g0 d (fun r G1 => ((zin (nI si) 0 (nI ns - 1) = false ∨ zin (nI ki) 0 (nI nk - 1) = false) ∧ mThr d B nk ns ne ec V G 1 r G1) ∨ (∃ s9, s9 < ns ∧ (nI si) = nI s9 ∧ ∃ k9, k9 < nk ∧ (nI ki) = nI k9 ∧ ((zsetok nk (nI g) = false ∧ mThr d B nk ns ne ec V G 2 r G1) ∨ (∃ g9, g9 < 2 ^ nk ∧ (nI g) = nI g9 ∧ ∃ V1, zKn V V1 ∧ V1 0 0 = 0 ∧ (((zgd (V1 (300 + s9)) (V1 (400 + s9)) (V1 (200 + s9) 3) k9 = true ∨ (zgd (V1 (300 + s9)) (V1 (400 + s9)) (V1 (200 + s9) 3) k9 = false ∧ ∃ t, 1 ≤ t ∧ t ≤ 4 ∧ V1 (200 + s9) 0 = nI t ∧ rgd (V1 7) (mgv V1 s9) t (mgr V1 s9 g9) = false)) ∧ mThr d B nk ns ne ec V G 3 r G1) ∨ (zgd (V1 (300 + s9)) (V1 (400 + s9)) (V1 (200 + s9) 3) k9 = false ∧ ∃ B' V' ne' ec', mRb V1 V' nk ne ne' s9 k9 g9 (nI si) r ∧ zM d B' V' nk ns ne' ec' G1 ∧ mNw B B' nk ns ne nk ns ne' G ∧ mFr B nk ns ne G G1))))))) (zXc g0 d (zNo)) args s 2 84 (zA g0)) 0 0 (G7) [(6, .int (nI i)), (5, .int (nI (mgr V1 si g))), (4, .ref (B (200 + si))), (0, .ref (B 0)), (1, .int (nI si)), (2, .int (nI ki)), (3, .int (nI g))] [] 136 := by
              intro n
              induction n with
              | zero => intro i G7 V7 h0; exact absurd h0 (Nat.not_lt_zero _)
              | succ n ih_136 =>
                intro i G7 V7 hm_136 hi hM7 hK7 hF7
                refine z_iload 0 d_Mo_rebuild_136 rfl ?_
                refine z_bipush (v := 8) d_Mo_rebuild_138 (by decide) ?_
                refine z_icmp_ge 194 d_Mo_rebuild_140 (by decide) (fun c_140 => ?_) (fun c_140 => ?_)
                · skip
                  obtain rfl : i = 8 := by
                    have := (nI_leI (a := 8) (b := i) (by decide) (by omega)).mp c_140
                    omega
                  refine z_aload_n 3 d_Mo_rebuild_194 rfl rfl ?_
                  refine z_iconst (v := 3) d_Mo_rebuild_195 (by decide) ?_
                  refine z_iload_n 4 d_Mo_rebuild_196 rfl rfl ?_
                  refine z_callVp1 ((m_Mo_writeE hs0 hst hM7 _ _)) ym_Mo_write qM_Mo_143 qI_Mo_write qV_Mo_Mo_write zc_Mo hM7.mo d_Mo_rebuild_197 rfl (Nat.le_of_ble_eq_true rfl) ⟨by decide, by decide⟩ ⟨Nat.le_of_ble_eq_true rfl, Nat.le_of_ble_eq_true rfl⟩ (fun r_197 G_197 hp_197 => ?_)
                  obtain ⟨hr_197, B8, V8, ne8, ec8, hM8, hK8, hN8, hF8, hB8⟩ := hp_197
                  obtain rfl : r_197 = none := hr_197
                  have hmo8 := hM8.mo
                  rw [hB8 0 (by omega) (by omega)] at hmo8
                  refine z_aload_n 3 d_Mo_rebuild_200 rfl rfl ?_
                  refine z_dup d_Mo_rebuild_201 rfl ?_
                  refine z_get zc_Mo 5 (by decide) qF_Mo_169 hmo8 rfl d_Mo_rebuild_202 ?_
                  refine z_iload 1 d_Mo_rebuild_205 rfl ?_
                  refine z_callS1 ((m_Mo_size hs0 hst (nn := mgr V1 si g) (by have := mgr_lt (V := V1) (si := si) (s := g); omega))) ym_Mo_size qM_Mo_66 qS_Mo_size d_Mo_rebuild_207 rfl (Nat.le_of_ble_eq_true rfl) ⟨by decide, by decide⟩ ⟨Nat.le_of_ble_eq_true rfl, Nat.le_of_ble_eq_true rfl⟩ ?_
                  refine z_iload 1 d_Mo_rebuild_210 rfl ?_
                  refine z_callS1 ((m_Mo_size hs0 hst (nn := mgr V1 si g) (by have := mgr_lt (V := V1) (si := si) (s := g); omega))) ym_Mo_size qM_Mo_66 qS_Mo_size d_Mo_rebuild_212 rfl (Nat.le_of_ble_eq_true rfl) ⟨by decide, by decide⟩ ⟨Nat.le_of_ble_eq_true rfl, Nat.le_of_ble_eq_true rfl⟩ ?_
                  refine z_imul d_Mo_rebuild_215 ?_
                  refine z_iadd d_Mo_rebuild_216 ?_
                  refine z_put zc_Mo 5 (by decide) qF_Mo_169 hmo8 rfl rfl rfl (Nat.le_of_ble_eq_true rfl) d_Mo_rebuild_217 ?_
                  have hp0 := fun a : Int32 => hM8.put0 (V8 0 0) (V8 0 1) (V8 0 2) (V8 0 3) (V8 0 4) a
                  rw [hB8 0 (by omega) (by omega)] at hp0
                  refine z_iload 1 d_Mo_rebuild_220 rfl ?_
                  refine z_callS1 ((m_Mo_size hs0 hst (nn := mgr V1 si g) (by have := mgr_lt (V := V1) (si := si) (s := g); omega))) ym_Mo_size qM_Mo_66 qS_Mo_size d_Mo_rebuild_222 rfl (Nat.le_of_ble_eq_true rfl) ⟨by decide, by decide⟩ ⟨Nat.le_of_ble_eq_true rfl, Nat.le_of_ble_eq_true rfl⟩ ?_
                  refine z_iload 1 d_Mo_rebuild_225 rfl ?_
                  refine z_callS1 ((m_Mo_size hs0 hst (nn := mgr V1 si g) (by have := mgr_lt (V := V1) (si := si) (s := g); omega))) ym_Mo_size qM_Mo_66 qS_Mo_size d_Mo_rebuild_227 rfl (Nat.le_of_ble_eq_true rfl) ⟨by decide, by decide⟩ ⟨Nat.le_of_ble_eq_true rfl, Nat.le_of_ble_eq_true rfl⟩ ?_
                  refine z_imul d_Mo_rebuild_230 ?_
                  exact z_iret rfl (Or.inr ⟨si, hsi, rfl, ki, hki, rfl, Or.inr ⟨g, hg, rfl, V1, hK1, hT1, Or.inr ⟨hnot, B8, _, ne8, ec8, ⟨t, V4, V6, V7, V8, b0, ht1, ht4, ht, (zb_n0 _).mp c_88, hK4, eb0, hV6, hK7, hK8, rfl, rfl⟩, (hp0 _).1, mNw.rf.tr hN8 hF7 hM.ne0, hF7.tr (hN8.fr hF8 (hp0 _).2)⟩⟩⟩) (by first | decide | omega) (by first | decide | omega) d_Mo_rebuild_231
                · skip
                  have hi6 : i < 8 := Nat.lt_of_not_le fun q => c_140 (nI_le (a := 8) (b := i) q (by omega))
                  refine z_aload 2 d_Mo_rebuild_143 rfl ?_
                  refine z_dup d_Mo_rebuild_145 rfl ?_
                  refine z_get zc_MS 5 (by decide) qF_Mo_165 (hM7.se hsi).1 rfl d_Mo_rebuild_146 ?_
                  refine z_iload 1 d_Mo_rebuild_149 rfl ?_
                  refine z_iload 0 d_Mo_rebuild_151 rfl ?_
                  refine z_callS0 (m_Mo_has hs0 hst (nI (mgr V1 si g)) (nI i)) ym_Mo_has qM_Mo_76 qS_Mo_has d_Mo_rebuild_153 rfl (Nat.le_of_ble_eq_true rfl) ⟨by decide, by decide⟩ ⟨Nat.le_of_ble_eq_true rfl, Nat.le_of_ble_eq_true rfl⟩ ?_
                  refine z_if_eq 183 d_Mo_rebuild_156 (by decide) (fun c_156 => ?_) (fun c_156 => ?_)
                  · skip
                    have hf2 : (fun k => zbt (nI (mgr V1 si g)) k && decide (V6 (100 + k) 3 ≠ 0)) i = false := by
                      show (zbt (nI (mgr V1 si g)) i && _) = false
                      rw [show zbt (nI (mgr V1 si g)) i = false from (zb_0 _).mp c_156, Bool.false_and]
                    refine z_iconst (v := 0) d_Mo_rebuild_183 (by decide) ?_
                    refine z_ior d_Mo_rebuild_184 ?_
                    first
                      | refine z_topv (v := zb (b0 || zany (fun k => zbt (nI (mgr V1 si g)) k && decide (V6 (100 + k) 3 ≠ 0)) (i + 1))) (by rw [hK7.2.2]; show zb (b0 || zany (fun k => zbt (nI (mgr V1 si g)) k && decide (V6 (100 + k) 3 ≠ 0)) i) ||| zb true = zb (b0 || (zany (fun k => zbt (nI (mgr V1 si g)) k && decide (V6 (100 + k) 3 ≠ 0)) i || (fun k => zbt (nI (mgr V1 si g)) k && decide (V6 (100 + k) 3 ≠ 0)) i)); rw [hf3, zb_or, Bool.or_assoc]) ?_
                      | refine z_topv (v := zb (b0 || zany (fun k => zbt (nI (mgr V1 si g)) k && decide (V6 (100 + k) 3 ≠ 0)) (i + 1))) (by rw [hK7.2.2]; show zb (b0 || zany (fun k => zbt (nI (mgr V1 si g)) k && decide (V6 (100 + k) 3 ≠ 0)) i) ||| zb false = zb (b0 || (zany (fun k => zbt (nI (mgr V1 si g)) k && decide (V6 (100 + k) 3 ≠ 0)) i || (fun k => zbt (nI (mgr V1 si g)) k && decide (V6 (100 + k) 3 ≠ 0)) i)); rw [hf2, zb_or, Bool.or_assoc]) ?_
                    obtain ⟨hM7b, hF7b⟩ := hM7.puts hsi (V7 (200 + si) 3) (V7 (200 + si) 4) (b0 || zany (fun k => zbt (nI (mgr V1 si g)) k && decide (V6 (100 + k) 3 ≠ 0)) (i + 1))
                    refine z_put zc_MS 5 (by decide) qF_Mo_165 (hM7.se hsi).1 rfl (zb_nar _) (zb_fit _) (Nat.le_of_ble_eq_true rfl) d_Mo_rebuild_185 ?_
                    refine z_iinc (v := nI (i + 1)) (L' := [(6, _), (5, _), (4, _), (0, _), (1, _), (2, _), (3, _)]) 0 d_Mo_rebuild_188 rfl (nI_1 i) (by decide) rfl ?_
                    refine z_goto 136 d_Mo_rebuild_191 (by decide) ?_
                    exact ih_136 (i + 1) _ _ (by omega) (by omega) hM7b hK7.s (hF7.tr hF7b)
                  · skip
                    have hk6 : i < nk := zbt_lt hgq mgr_lt hi6 c_156
                    refine z_aload_n 3 d_Mo_rebuild_159 rfl rfl ?_
                    refine z_get zc_Mo 6 (by decide) qF_Mo_16 hM7.mo rfl d_Mo_rebuild_160 ?_
                    refine z_iload 0 d_Mo_rebuild_163 rfl ?_
                    refine z_callF0 (m_AL_get hs0 hst (hM7.kA hk6) hk6 (if_pos hk6)) ym_AL_get zF_AL_get qM_Mo_51 zc_AL (hM7.kA hk6).1 d_Mo_rebuild_165 rfl (Nat.le_of_ble_eq_true rfl) ⟨by decide, by decide⟩ ⟨Nat.le_of_ble_eq_true rfl, Nat.le_of_ble_eq_true rfl⟩ ?_
                    refine z_castS zc_MK qK_Mo_57 (hM7.ke hk6) d_Mo_rebuild_170 ?_
                    refine z_get zc_MK 3 (by decide) qF_Mo_59 (hM7.ke hk6) rfl d_Mo_rebuild_173 ?_
                    refine z_if_eq 183 d_Mo_rebuild_176 (by decide) (fun c_176 => ?_) (fun c_176 => ?_)
                    · skip
                      have hf2 : (fun k => zbt (nI (mgr V1 si g)) k && decide (V6 (100 + k) 3 ≠ 0)) i = false := by
                        show (_ && decide (V6 (100 + i) 3 ≠ 0)) = false
                        rw [decide_eq_false (p := V6 (100 + i) 3 ≠ 0) (fun q => q (by rw [← hK7.1 (100 + i) (by omega)]; exact c_176)), Bool.and_false]
                      refine z_iconst (v := 0) d_Mo_rebuild_183 (by decide) ?_
                      refine z_ior d_Mo_rebuild_184 ?_
                      first
                        | refine z_topv (v := zb (b0 || zany (fun k => zbt (nI (mgr V1 si g)) k && decide (V6 (100 + k) 3 ≠ 0)) (i + 1))) (by rw [hK7.2.2]; show zb (b0 || zany (fun k => zbt (nI (mgr V1 si g)) k && decide (V6 (100 + k) 3 ≠ 0)) i) ||| zb true = zb (b0 || (zany (fun k => zbt (nI (mgr V1 si g)) k && decide (V6 (100 + k) 3 ≠ 0)) i || (fun k => zbt (nI (mgr V1 si g)) k && decide (V6 (100 + k) 3 ≠ 0)) i)); rw [hf3, zb_or, Bool.or_assoc]) ?_
                        | refine z_topv (v := zb (b0 || zany (fun k => zbt (nI (mgr V1 si g)) k && decide (V6 (100 + k) 3 ≠ 0)) (i + 1))) (by rw [hK7.2.2]; show zb (b0 || zany (fun k => zbt (nI (mgr V1 si g)) k && decide (V6 (100 + k) 3 ≠ 0)) i) ||| zb false = zb (b0 || (zany (fun k => zbt (nI (mgr V1 si g)) k && decide (V6 (100 + k) 3 ≠ 0)) i || (fun k => zbt (nI (mgr V1 si g)) k && decide (V6 (100 + k) 3 ≠ 0)) i)); rw [hf2, zb_or, Bool.or_assoc]) ?_
                      obtain ⟨hM7b, hF7b⟩ := hM7.puts hsi (V7 (200 + si) 3) (V7 (200 + si) 4) (b0 || zany (fun k => zbt (nI (mgr V1 si g)) k && decide (V6 (100 + k) 3 ≠ 0)) (i + 1))
                      refine z_put zc_MS 5 (by decide) qF_Mo_165 (hM7.se hsi).1 rfl (zb_nar _) (zb_fit _) (Nat.le_of_ble_eq_true rfl) d_Mo_rebuild_185 ?_
                      refine z_iinc (v := nI (i + 1)) (L' := [(6, _), (5, _), (4, _), (0, _), (1, _), (2, _), (3, _)]) 0 d_Mo_rebuild_188 rfl (nI_1 i) (by decide) rfl ?_
                      refine z_goto 136 d_Mo_rebuild_191 (by decide) ?_
                      exact ih_136 (i + 1) _ _ (by omega) (by omega) hM7b hK7.s (hF7.tr hF7b)
                    · skip
                      have hf3 : (fun k => zbt (nI (mgr V1 si g)) k && decide (V6 (100 + k) 3 ≠ 0)) i = true := by
                        show (zbt (nI (mgr V1 si g)) i && decide (V6 (100 + i) 3 ≠ 0)) = true
                        rw [show zbt (nI (mgr V1 si g)) i = true from (zb_n0 _).mp c_156, decide_eq_true (p := V6 (100 + i) 3 ≠ 0) (by rw [← hK7.1 (100 + i) (by omega)]; exact c_176)]
                        rfl
                      refine z_iconst (v := 1) d_Mo_rebuild_179 (by decide) ?_
                      refine z_goto 184 d_Mo_rebuild_180 (by decide) ?_
                      refine z_ior d_Mo_rebuild_184 ?_
                      first
                        | refine z_topv (v := zb (b0 || zany (fun k => zbt (nI (mgr V1 si g)) k && decide (V6 (100 + k) 3 ≠ 0)) (i + 1))) (by rw [hK7.2.2]; show zb (b0 || zany (fun k => zbt (nI (mgr V1 si g)) k && decide (V6 (100 + k) 3 ≠ 0)) i) ||| zb true = zb (b0 || (zany (fun k => zbt (nI (mgr V1 si g)) k && decide (V6 (100 + k) 3 ≠ 0)) i || (fun k => zbt (nI (mgr V1 si g)) k && decide (V6 (100 + k) 3 ≠ 0)) i)); rw [hf3, zb_or, Bool.or_assoc]) ?_
                        | refine z_topv (v := zb (b0 || zany (fun k => zbt (nI (mgr V1 si g)) k && decide (V6 (100 + k) 3 ≠ 0)) (i + 1))) (by rw [hK7.2.2]; show zb (b0 || zany (fun k => zbt (nI (mgr V1 si g)) k && decide (V6 (100 + k) 3 ≠ 0)) i) ||| zb false = zb (b0 || (zany (fun k => zbt (nI (mgr V1 si g)) k && decide (V6 (100 + k) 3 ≠ 0)) i || (fun k => zbt (nI (mgr V1 si g)) k && decide (V6 (100 + k) 3 ≠ 0)) i)); rw [hf2, zb_or, Bool.or_assoc]) ?_
                      obtain ⟨hM7b, hF7b⟩ := hM7.puts hsi (V7 (200 + si) 3) (V7 (200 + si) 4) (b0 || zany (fun k => zbt (nI (mgr V1 si g)) k && decide (V6 (100 + k) 3 ≠ 0)) (i + 1))
                      refine z_put zc_MS 5 (by decide) qF_Mo_165 (hM7.se hsi).1 rfl (zb_nar _) (zb_fit _) (Nat.le_of_ble_eq_true rfl) d_Mo_rebuild_185 ?_
                      refine z_iinc (v := nI (i + 1)) (L' := [(6, _), (5, _), (4, _), (0, _), (1, _), (2, _), (3, _)]) 0 d_Mo_rebuild_188 rfl (nI_1 i) (by decide) rfl ?_
                      refine z_goto 136 d_Mo_rebuild_191 (by decide) ?_
                      exact ih_136 (i + 1) _ _ (by omega) (by omega) hM7b hK7.s (hF7.tr hF7b)
            exact key_136 9 0 _ _ (by omega) (by omega) hM6 hb6 hF6
          · skip
            have hcond : zgd (V1 (300 + si)) (V1 (400 + si)) (V1 (200 + si) 3) ki = true ∨ (zgd (V1 (300 + si)) (V1 (400 + si)) (V1 (200 + si) 3) ki = false ∧ ∃ t, 1 ≤ t ∧ t ≤ 4 ∧ V1 (200 + si) 0 = nI t ∧ rgd (V1 7) (mgv V1 si) t (mgr V1 si g) = false) := Or.inr ⟨hnot, t, ht1, ht4, ht, (zb_0 _).mp c_88⟩
            refine z_aload_n 2 d_Mo_rebuild_91 rfl rfl ?_
            refine z_iconst (v := 3) d_Mo_rebuild_92 (by decide) ?_
            refine z_callV0 (m_Mo_no hs0 hst hM2.mo 3) ym_Mo_no qM_Mo_119 qI_Mo_no qV_Mo_Mo_no zc_Mo hM2.mo d_Mo_rebuild_93 rfl (Nat.le_of_ble_eq_true rfl) ⟨by decide, by decide⟩ ⟨Nat.le_of_ble_eq_true rfl, Nat.le_of_ble_eq_true rfl⟩ ?_
            obtain ⟨V9, hM9, hK9, hF9, hT9⟩ := hM2.putT 3
            exact z_iret rfl (Or.inr ⟨si, hsi, rfl, ki, hki, rfl, Or.inr ⟨g, hg, rfl, V1, hK1, hT1, Or.inl ⟨hcond, rfl, V9, hM9, hT9, (hK1.tr hK2.m.n).tr hK9, hF2.tr hF9⟩⟩⟩) (by first | decide | omega) (by first | decide | omega) d_Mo_rebuild_96
      · skip
        refine z_aload_n 0 d_Mo_rebuild_35 rfl rfl ?_
        refine z_iconst (v := 2) d_Mo_rebuild_36 (by decide) ?_
        refine z_callV0 (m_Mo_no hs0 hst hM1.mo 2) ym_Mo_no qM_Mo_119 qI_Mo_no qV_Mo_Mo_no zc_Mo hM1.mo d_Mo_rebuild_37 rfl (Nat.le_of_ble_eq_true rfl) ⟨by decide, by decide⟩ ⟨Nat.le_of_ble_eq_true rfl, Nat.le_of_ble_eq_true rfl⟩ ?_
        obtain ⟨V9, hM9, hK9, hF9, hT9⟩ := hM1.putT 2
        exact z_iret rfl (Or.inr ⟨si, hsi, rfl, ki, hki, rfl, Or.inl ⟨(zb_0 _).mp (by first | exact c_32 | exact Decidable.not_not.mp c_32), ⟨rfl, V9, hM9, hT9, hK1.tr hK9, hF1.tr hF9⟩⟩⟩) (by first | decide | omega) (by first | decide | omega) d_Mo_rebuild_40
    · skip
      refine z_aload_n 0 d_Mo_rebuild_21 rfl rfl ?_
      refine z_iconst (v := 1) d_Mo_rebuild_22 (by decide) ?_
      refine z_callV0 (m_Mo_no hs0 hst hM1.mo 1) ym_Mo_no qM_Mo_119 qI_Mo_no qV_Mo_Mo_no zc_Mo hM1.mo d_Mo_rebuild_23 rfl (Nat.le_of_ble_eq_true rfl) ⟨by decide, by decide⟩ ⟨Nat.le_of_ble_eq_true rfl, Nat.le_of_ble_eq_true rfl⟩ ?_
      obtain ⟨V9, hM9, hK9, hF9, hT9⟩ := hM1.putT 1
      exact z_iret rfl (Or.inl ⟨by first | exact Or.inl ((zb_0 _).mp c_10) | exact Or.inr ((zb_0 _).mp (by first | exact c_18 | exact Decidable.not_not.mp c_18)), ⟨rfl, V9, hM9, hT9, hK1.tr hK9, hF1.tr hF9⟩⟩) (by first | decide | omega) (by first | decide | omega) d_Mo_rebuild_26
