
/-- a public method that writes: an entry more, or none -/
def mTq (d : zD) (B : Nat → Nat) (nk ns ne : Nat) (V : Nat → Nat → Int32) (G : zG) (R : Option Value → Prop) : Option Value → zG → Prop := fun r G1 => R r ∧ ∃ B' V' ne' ec', zM d B' V' nk ns ne' ec' G1 ∧ zKn V V' ∧ mNw B B' nk ns ne nk ns ne' G ∧ mFr B nk ns ne G G1
theorem zor_1 {x : Int32} {b : Bool} (h : x = zb b) : x ||| 1 = zb true := by subst h; cases b <;> rfl
theorem zor_0 {x : Int32} {b : Bool} (h : x = zb b) : x ||| 0 = zb b := by subst h; cases b <;> rfl
theorem zor_bb {x : Int32} {b : Bool} (h : x = zb b) (c : Bool) : x ||| zb c = zb (b || c) := by subst h; cases b <;> cases c <;> rfl
theorem m_Mo_sizeX {g0 : State} {d : zD} {l : Launch} {a0 : Array Value} (hs0 : zS0 d a0 g0) (hst : l.stackTraces = false) {G : zG} (x : Int32) : zMet g0 d l y_Mo_size c_Mo_size 3 (Option.some Jvm.ClassFile.FieldType.int) 1 0 0 [.int x] G (fun r G1 => (∃ v, r = some (.int v) ∧ ∀ n, n < 512 → x = nI n → v = nI (zpop 9 n)) ∧ G = G1) zNo := by
  by_cases h : ∃ n, n < 512 ∧ x = nI n
  · obtain ⟨n, hn, rfl⟩ := h
    refine zMet.imp (m_Mo_size hs0 hst hn) (fun r G1 h => ?_) (fun _ _ h => h)
    obtain ⟨rfl, rfl⟩ := h
    exact ⟨⟨_, rfl, fun m hm e => by rw [(nI_eq (by omega) (by omega)).mp e]⟩, rfl⟩
  · refine zMet.imp (m_Mo_sizeA hs0 hst x) (fun r G1 h' => ?_) (fun _ _ h => h)
    obtain ⟨⟨v, rfl⟩, rfl⟩ := h'
    exact ⟨⟨v, rfl, fun m hm e => absurd ⟨m, hm, e⟩ h⟩, rfl⟩
section ZMZ
variable {d : zD} {B : Nat → Nat} {V : Nat → Nat → Int32} {nk ns ne ec : Nat} {G G1 : zG}
/-- a share is written, of a keeper that there is -/
theorem zM.putsh (h : zM d B V nk ns ne ec G) {i k : Nat} (hi : i < ns) (hk : k < nk) (x : Int32) : ∃ V', zM d B V' nk ns ne ec (zu G (B (300 + i)) (zI d 8 (upd (V (300 + i)) k x))) ∧ zKm V V' ∧ mFr B nk ns ne G (zu G (B (300 + i)) (zI d 8 (upd (V (300 + i)) k x))) := by
  have hn : ns ≤ 6 := h.2.2.1
  exact ⟨_, h.put (ml_sh hi) _ rfl (mcell_a (by omega) (by omega) _).symm (h.2.sh (fun j h1 h2 => (pk_un (by omega)).trans (h.off hi h1 h2)) (by omega)), zKm.off (Or.inr (by omega)), zM.frput (ml_sh hi) rfl⟩
theorem zM.putep (h : zM d B V nk ns ne ec G) {i : Nat} (hi : i < ns) (v : Nat → Int32) : ∃ V', zM d B V' nk ns ne ec (zu G (B (400 + i)) (zI d 8 v)) ∧ zKm V V' ∧ mFr B nk ns ne G (zu G (B (400 + i)) (zI d 8 v)) := by
  have hn : ns ≤ 6 := h.2.2.1
  exact ⟨_, h.put (ml_ep hi) v rfl (mcell_a (by omega) (by omega) _).symm (h.2.off (Or.inr (by omega))), zKm.off (Or.inr (by omega)), zM.frput (ml_ep hi) rfl⟩
abbrev zms (B : Nat → Nat) (V : Nat → Nat → Int32) (i : Nat) (a b c : Int32) : va_E := zob 11 [.int (V (200 + i) 0), .int (V (200 + i) 1), .int (V (200 + i) 2), .int a, .int b, .int c, .ref (B (300 + i)), .ref (B (400 + i))]
def zs6 (f : Nat → Int32) (a b c : Int32) : Nat → Int32 | 0 => f 0 | 1 => f 1 | 2 => f 2 | 3 => a | 4 => b | 5 => c | _ => 0
theorem zM.puts (h : zM d B V nk ns ne ec G) {i : Nat} (hi : i < ns) (a b : Int32) (c : Bool) : zM d B (rset V (200 + i) (zs6 (V (200 + i)) a b (zb c))) nk ns ne ec (zu G (B (200 + i)) (zms B V i a b (zb c))) ∧ mFr B nk ns ne G (zu G (B (200 + i)) (zms B V i a b (zb c))) := by
  have hn : ns ≤ 6 := h.2.2.1
  exact ⟨h.put (ml_i hi) (zs6 (V (200 + i)) a b (zb c)) rfl (mcell_i (i := i) (d := d) (B := B) (ec := ec) (nk := nk) (ns := ns) (ne := ne) (by omega) (zs6 (V (200 + i)) a b (zb c))).symm (h.2.sec rfl ⟨c, rfl⟩ (by omega)), zM.frput (ml_i hi) rfl⟩
theorem zM.putsk (h : zM d B V nk ns ne ec G) {i : Nat} (hi : i < ns) (a : Int32) (c : Bool) : ∃ V', zM d B V' nk ns ne ec (zu G (B (200 + i)) (zms B V i a (V (200 + i) 4) (zb c))) ∧ zKm V V' ∧ mFr B nk ns ne G (zu G (B (200 + i)) (zms B V i a (V (200 + i) 4) (zb c))) :=
  ⟨_, (h.puts hi a _ c).1, zKm.set (fun j hj => by
    have hn : ns ≤ 6 := h.2.2.1
    have : j = 0 ∨ j = 1 ∨ j = 2 ∨ j = 4 := by unfold zmo_ at hj; omega
    rcases this with rfl | rfl | rfl | rfl <;> rfl), (h.puts hi a _ c).2⟩
abbrev zmk (V : Nat → Nat → Int32) (k : Nat) (a b : Int32) : va_E := zob 10 [.int (V (100 + k) 0), .int (V (100 + k) 1), .int (V (100 + k) 2), .int a, .int b]
def zk5 (f : Nat → Int32) (a b : Int32) : Nat → Int32 | 0 => f 0 | 1 => f 1 | 2 => f 2 | 3 => a | 4 => b | _ => 0
theorem zM.putk (h : zM d B V nk ns ne ec G) {k : Nat} (hk : k < nk) (a : Int32) (c : Bool) : zM d B (rset V (100 + k) (zk5 (V (100 + k)) a (zb c))) nk ns ne ec (zu G (B (100 + k)) (zmk V k a (zb c))) ∧ mFr B nk ns ne G (zu G (B (100 + k)) (zmk V k a (zb c))) := by
  have hn : nk ≤ 8 := h.2.1
  exact ⟨h.put (ml_k hk) (zk5 (V (100 + k)) a (zb c)) rfl (mcell_k (k := k) (d := d) (B := B) (ec := ec) (nk := nk) (ns := ns) (ne := ne) (by omega) (zk5 (V (100 + k)) a (zb c))).symm (h.2.kee ⟨c, rfl⟩ (by omega)), zM.frput (ml_k hk) rfl⟩
theorem zM.putkk (h : zM d B V nk ns ne ec G) {k : Nat} (hk : k < nk) (c : Bool) : ∃ V', zM d B V' nk ns ne ec (zu G (B (100 + k)) (zmk V k (V (100 + k) 3) (zb c))) ∧ zKm V V' ∧ mFr B nk ns ne G (zu G (B (100 + k)) (zmk V k (V (100 + k) 3) (zb c))) :=
  ⟨_, (h.putk hk _ c).1, zKm.set (fun j hj => by
    have hn : nk ≤ 8 := h.2.1
    have : j = 0 ∨ j = 1 ∨ j = 2 ∨ j = 3 := by unfold zmo_ at hj; omega
    rcases this with rfl | rfl | rfl | rfl <;> rfl), (h.putk hk _ c).2⟩
end ZMZ

theorem d_Mo_pass_0 : decode c_Mo_pass 0 = .ok (.aload_n 0, 1) := by decide +kernel
theorem d_Mo_pass_1 : decode c_Mo_pass 1 = .ok (.iconst 0, 1) := by decide +kernel
theorem d_Mo_pass_2 : decode c_Mo_pass 2 = .ok (.putfield 36, 3) := by decide +kernel
theorem d_Mo_pass_5 : decode c_Mo_pass 5 = .ok (.iload_n 1, 1) := by decide +kernel
theorem d_Mo_pass_6 : decode c_Mo_pass 6 = .ok (.iconst 1, 1) := by decide +kernel
theorem d_Mo_pass_7 : decode c_Mo_pass 7 = .ok (.sipush 365, 3) := by decide +kernel
theorem d_Mo_pass_10 : decode c_Mo_pass 10 = .ok (.invokestatic 115, 3) := by decide +kernel
theorem d_Mo_pass_13 : decode c_Mo_pass 13 = .ok (.ifCond .ne 9, 3) := by decide +kernel
theorem d_Mo_pass_16 : decode c_Mo_pass 16 = .ok (.aload_n 0, 1) := by decide +kernel
theorem d_Mo_pass_17 : decode c_Mo_pass 17 = .ok (.iconst 1, 1) := by decide +kernel
theorem d_Mo_pass_18 : decode c_Mo_pass 18 = .ok (.invokevirtual 119, 3) := by decide +kernel
theorem d_Mo_pass_21 : decode c_Mo_pass 21 = .ok (.ireturn, 1) := by decide +kernel
theorem d_Mo_pass_22 : decode c_Mo_pass 22 = .ok (.aload_n 0, 1) := by decide +kernel
theorem d_Mo_pass_23 : decode c_Mo_pass 23 = .ok (.getfield 102, 3) := by decide +kernel
theorem d_Mo_pass_26 : decode c_Mo_pass 26 = .ok (.iload_n 1, 1) := by decide +kernel
theorem d_Mo_pass_27 : decode c_Mo_pass 27 = .ok (.iadd, 1) := by decide +kernel
theorem d_Mo_pass_28 : decode c_Mo_pass 28 = .ok (.sipush 999, 3) := by decide +kernel
theorem d_Mo_pass_31 : decode c_Mo_pass 31 = .ok (.if_icmp .le 9, 3) := by decide +kernel
theorem d_Mo_pass_34 : decode c_Mo_pass 34 = .ok (.aload_n 0, 1) := by decide +kernel
theorem d_Mo_pass_35 : decode c_Mo_pass 35 = .ok (.iconst 2, 1) := by decide +kernel
theorem d_Mo_pass_36 : decode c_Mo_pass 36 = .ok (.invokevirtual 119, 3) := by decide +kernel
theorem d_Mo_pass_39 : decode c_Mo_pass 39 = .ok (.ireturn, 1) := by decide +kernel
theorem d_Mo_pass_40 : decode c_Mo_pass 40 = .ok (.aload_n 0, 1) := by decide +kernel
theorem d_Mo_pass_41 : decode c_Mo_pass 41 = .ok (.dup, 1) := by decide +kernel
theorem d_Mo_pass_42 : decode c_Mo_pass 42 = .ok (.getfield 102, 3) := by decide +kernel
theorem d_Mo_pass_45 : decode c_Mo_pass 45 = .ok (.iload_n 1, 1) := by decide +kernel
theorem d_Mo_pass_46 : decode c_Mo_pass 46 = .ok (.iadd, 1) := by decide +kernel
theorem d_Mo_pass_47 : decode c_Mo_pass 47 = .ok (.putfield 102, 3) := by decide +kernel
theorem d_Mo_pass_50 : decode c_Mo_pass 50 = .ok (.aload_n 0, 1) := by decide +kernel
theorem d_Mo_pass_51 : decode c_Mo_pass 51 = .ok (.getfield 102, 3) := by decide +kernel
theorem d_Mo_pass_54 : decode c_Mo_pass 54 = .ok (.ireturn, 1) := by decide +kernel
set_option maxHeartbeats 4000000 in
set_option maxRecDepth 100000 in
theorem m_Mo_pass {g0 : State} {d : zD} {l : Launch} {a0 : Array Value} (hs0 : zS0 d a0 g0) (hst : l.stackTraces = false) {G : zG} {B : Nat → Nat} {V : Nat → Nat → Int32} {nk ns ne ec : Nat} (hM : zM d B V nk ns ne ec G) (x : Int32) : zMet g0 d l y_Mo_pass c_Mo_pass 2 ((Option.some Jvm.ClassFile.FieldType.int)) 2 0 0 [.ref (B 0), .int x] (G) (fun r G1 => ∃ V', zM d B V' nk ns ne ec G1 ∧ mFr B nk ns ne G G1 ∧ ((zin x 1 365 = false ∧ V' 0 0 = 1 ∧ zKn V V' ∧ r = some (.int 0)) ∨ (zin x 1 365 = true ∧ 999 < V 0 2 + x ∧ V' 0 0 = 2 ∧ zKn V V' ∧ r = some (.int 0)) ∨ (zin x 1 365 = true ∧ ¬ 999 < V 0 2 + x ∧ V' 0 0 = 0 ∧ V' 0 2 = V 0 2 + x ∧ (∀ r j, zmo_ r j → r ≠ 0 → V' r j = V r j) ∧ r = some (.int (V 0 2 + x))))) (zNo) := by
  have hnk : nk ≤ 8 := hM.2.1
  have hns : ns ≤ 6 := hM.2.2.1
  have hne : ne ≤ 64 := hM.2.2.2.1
  have hp2 : 2 ^ nk ≤ 256 := Nat.pow_le_pow_right (n := 2) (by decide) hnk
  refine z_entry hs0 hst (by decide) (Nat.le_of_ble_eq_true rfl) (fun p e s m args below meth c => ?_)
  refine z_aload_n 0 d_Mo_pass_0 rfl rfl ?_
  refine z_iconst (v := 0) d_Mo_pass_1 (by decide) ?_
  refine z_put zc_Mo 0 (by decide) qF_Mo_36 hM.mo rfl rfl rfl (Nat.le_of_ble_eq_true rfl) d_Mo_pass_2 ?_
  obtain ⟨V1, hM1, hK1, hF1, hT1⟩ := hM.putT 0
  have eD : V1 0 2 = V 0 2 := hK1 0 2 (Or.inl ⟨rfl, Or.inr rfl⟩) (by decide)
  refine z_iload_n 1 d_Mo_pass_5 rfl rfl ?_
  refine z_iconst (v := 1) d_Mo_pass_6 (by decide) ?_
  refine z_sipush (v := 365) d_Mo_pass_7 (by decide) ?_
  refine z_callS0 (m_Mo_in hs0 hst x 1 _) ym_Mo_in qM_Mo_115 qS_Mo_in d_Mo_pass_10 rfl (Nat.le_of_ble_eq_true rfl) ⟨Nat.zero_le _, Nat.zero_le _⟩ ⟨Nat.le_of_ble_eq_true rfl, Nat.le_of_ble_eq_true rfl⟩ ?_
  refine z_if_ne 22 d_Mo_pass_13 (by decide) (fun c_13 => ?_) (fun c_13 => ?_)
  · skip
    refine z_aload_n 0 d_Mo_pass_22 rfl rfl ?_
    refine z_get zc_Mo 2 (by decide) qF_Mo_102 hM1.mo rfl d_Mo_pass_23 ?_
    refine z_iload_n 1 d_Mo_pass_26 rfl rfl ?_
    refine z_iadd d_Mo_pass_27 ?_
    refine z_sipush (v := 999) d_Mo_pass_28 (by decide) ?_
    refine z_icmp_le 40 d_Mo_pass_31 (by decide) (fun c_31 => ?_) (fun c_31 => ?_)
    · skip
      refine z_aload_n 0 d_Mo_pass_40 rfl rfl ?_
      refine z_dup d_Mo_pass_41 rfl ?_
      refine z_get zc_Mo 2 (by decide) qF_Mo_102 hM1.mo rfl d_Mo_pass_42 ?_
      refine z_iload_n 1 d_Mo_pass_45 rfl rfl ?_
      refine z_iadd d_Mo_pass_46 ?_
      refine z_put zc_Mo 2 (by decide) qF_Mo_102 hM1.mo rfl rfl rfl (Nat.le_of_ble_eq_true rfl) d_Mo_pass_47 ?_
      obtain ⟨hM2, hF2⟩ := hM1.put0 (V1 0 0) (V1 0 1) (V1 0 2 + x) (V1 0 3) (V1 0 4) (V1 0 5)
      refine z_aload_n 0 d_Mo_pass_50 rfl rfl ?_
      refine z_get zc_Mo 2 (by decide) qF_Mo_102 hM2.mo rfl d_Mo_pass_51 ?_
      exact z_iret rfl (⟨_, hM2, hF1.tr hF2, Or.inr (Or.inr ⟨(zb_n0 _).mp c_13, by rw [← eD]; exact Int32.not_lt.mpr c_31, hT1, by rw [← eD]; rfl, fun r j hr h0 => by rw [rset_n h0]; exact hK1 r j hr (fun q => h0 q.1), by rw [← eD]; rfl⟩)⟩) (by first | decide | omega) (by first | decide | omega) d_Mo_pass_54
    · skip
      refine z_aload_n 0 d_Mo_pass_34 rfl rfl ?_
      refine z_iconst (v := 2) d_Mo_pass_35 (by decide) ?_
      refine z_callV0 (m_Mo_no hs0 hst hM1.mo 2) ym_Mo_no qM_Mo_119 qI_Mo_no qV_Mo_Mo_no zc_Mo hM1.mo d_Mo_pass_36 rfl (Nat.le_of_ble_eq_true rfl) ⟨Nat.zero_le _, Nat.zero_le _⟩ ⟨Nat.le_of_ble_eq_true rfl, Nat.le_of_ble_eq_true rfl⟩ ?_
      obtain ⟨V9, hM9, hK9, hF9, hT9⟩ := hM1.putT 2
      exact z_iret rfl (⟨V9, hM9, hF1.tr hF9, Or.inr (Or.inl ⟨(zb_n0 _).mp c_13, by rw [← eD]; exact Int32.not_le.mp c_31, hT9, hK1.tr hK9, rfl⟩)⟩) (by first | decide | omega) (by first | decide | omega) d_Mo_pass_39
  · skip
    refine z_aload_n 0 d_Mo_pass_16 rfl rfl ?_
    refine z_iconst (v := 1) d_Mo_pass_17 (by decide) ?_
    refine z_callV0 (m_Mo_no hs0 hst hM1.mo 1) ym_Mo_no qM_Mo_119 qI_Mo_no qV_Mo_Mo_no zc_Mo hM1.mo d_Mo_pass_18 rfl (Nat.le_of_ble_eq_true rfl) ⟨Nat.zero_le _, Nat.zero_le _⟩ ⟨Nat.le_of_ble_eq_true rfl, Nat.le_of_ble_eq_true rfl⟩ ?_
    obtain ⟨V9, hM9, hK9, hF9, hT9⟩ := hM1.putT 1
    exact z_iret rfl (⟨V9, hM9, hF1.tr hF9, Or.inl ⟨(zb_0 _).mp c_13, hT9, hK1.tr hK9, rfl⟩⟩) (by first | decide | omega) (by first | decide | omega) d_Mo_pass_21
theorem d_Mo_lie_0 : decode c_Mo_lie 0 = .ok (.aload_n 0, 1) := by decide +kernel
theorem d_Mo_lie_1 : decode c_Mo_lie 1 = .ok (.iconst 0, 1) := by decide +kernel
theorem d_Mo_lie_2 : decode c_Mo_lie 2 = .ok (.putfield 36, 3) := by decide +kernel
theorem d_Mo_lie_5 : decode c_Mo_lie 5 = .ok (.aload_n 0, 1) := by decide +kernel
theorem d_Mo_lie_6 : decode c_Mo_lie 6 = .ok (.iload_n 1, 1) := by decide +kernel
theorem d_Mo_lie_7 : decode c_Mo_lie 7 = .ok (.invokevirtual 125, 3) := by decide +kernel
theorem d_Mo_lie_10 : decode c_Mo_lie 10 = .ok (.ifCond .ne 9, 3) := by decide +kernel
theorem d_Mo_lie_13 : decode c_Mo_lie 13 = .ok (.aload_n 0, 1) := by decide +kernel
theorem d_Mo_lie_14 : decode c_Mo_lie 14 = .ok (.iconst 1, 1) := by decide +kernel
theorem d_Mo_lie_15 : decode c_Mo_lie 15 = .ok (.invokevirtual 119, 3) := by decide +kernel
theorem d_Mo_lie_18 : decode c_Mo_lie 18 = .ok (.ireturn, 1) := by decide +kernel
theorem d_Mo_lie_19 : decode c_Mo_lie 19 = .ok (.iload_n 2, 1) := by decide +kernel
theorem d_Mo_lie_20 : decode c_Mo_lie 20 = .ok (.iconst 0, 1) := by decide +kernel
theorem d_Mo_lie_21 : decode c_Mo_lie 21 = .ok (.bipush 96, 2) := by decide +kernel
theorem d_Mo_lie_23 : decode c_Mo_lie 23 = .ok (.invokestatic 115, 3) := by decide +kernel
theorem d_Mo_lie_26 : decode c_Mo_lie 26 = .ok (.ifCond .ne 9, 3) := by decide +kernel
theorem d_Mo_lie_29 : decode c_Mo_lie 29 = .ok (.aload_n 0, 1) := by decide +kernel
theorem d_Mo_lie_30 : decode c_Mo_lie 30 = .ok (.iconst 2, 1) := by decide +kernel
theorem d_Mo_lie_31 : decode c_Mo_lie 31 = .ok (.invokevirtual 119, 3) := by decide +kernel
theorem d_Mo_lie_34 : decode c_Mo_lie 34 = .ok (.ireturn, 1) := by decide +kernel
theorem d_Mo_lie_35 : decode c_Mo_lie 35 = .ok (.aload_n 0, 1) := by decide +kernel
theorem d_Mo_lie_36 : decode c_Mo_lie 36 = .ok (.getfield 16, 3) := by decide +kernel
theorem d_Mo_lie_39 : decode c_Mo_lie 39 = .ok (.iload_n 1, 1) := by decide +kernel
theorem d_Mo_lie_40 : decode c_Mo_lie 40 = .ok (.invokeinterface 51 2, 5) := by decide +kernel
theorem d_Mo_lie_45 : decode c_Mo_lie 45 = .ok (.checkcast 57, 3) := by decide +kernel
theorem d_Mo_lie_48 : decode c_Mo_lie 48 = .ok (.getfield 59, 3) := by decide +kernel
theorem d_Mo_lie_51 : decode c_Mo_lie 51 = .ok (.istore_n 3, 1) := by decide +kernel
theorem d_Mo_lie_52 : decode c_Mo_lie 52 = .ok (.aload_n 0, 1) := by decide +kernel
theorem d_Mo_lie_53 : decode c_Mo_lie 53 = .ok (.getfield 16, 3) := by decide +kernel
theorem d_Mo_lie_56 : decode c_Mo_lie 56 = .ok (.iload_n 1, 1) := by decide +kernel
theorem d_Mo_lie_57 : decode c_Mo_lie 57 = .ok (.invokeinterface 51 2, 5) := by decide +kernel
theorem d_Mo_lie_62 : decode c_Mo_lie 62 = .ok (.checkcast 57, 3) := by decide +kernel
theorem d_Mo_lie_65 : decode c_Mo_lie 65 = .ok (.iload_n 2, 1) := by decide +kernel
theorem d_Mo_lie_66 : decode c_Mo_lie 66 = .ok (.putfield 59, 3) := by decide +kernel
theorem d_Mo_lie_69 : decode c_Mo_lie 69 = .ok (.iload_n 3, 1) := by decide +kernel
theorem d_Mo_lie_70 : decode c_Mo_lie 70 = .ok (.ireturn, 1) := by decide +kernel
set_option maxHeartbeats 4000000 in
set_option maxRecDepth 100000 in
theorem m_Mo_lie {g0 : State} {d : zD} {l : Launch} {a0 : Array Value} (hs0 : zS0 d a0 g0) (hst : l.stackTraces = false) {G : zG} {B : Nat → Nat} {V : Nat → Nat → Int32} {nk ns ne ec : Nat} (hM : zM d B V nk ns ne ec G) (x w : Int32) : zMet g0 d l y_Mo_lie c_Mo_lie 4 ((Option.some Jvm.ClassFile.FieldType.int)) 11 0 0 [.ref (B 0), .int x, .int w] (G) (fun r G1 => ∃ V', zM d B V' nk ns ne ec G1 ∧ mFr B nk ns ne G G1 ∧ ((zin x 0 (nI nk - 1) = false ∧ V' 0 0 = 1 ∧ zKn V V' ∧ r = some (.int 0)) ∨ ((∃ k, k < nk ∧ x = nI k) ∧ zin w 0 96 = false ∧ V' 0 0 = 2 ∧ zKn V V' ∧ r = some (.int 0)) ∨ (∃ k, k < nk ∧ x = nI k ∧ zin w 0 96 = true ∧ V' 0 0 = 0 ∧ V' (100 + k) 3 = w ∧ (∀ r j, zmo_ r j → ¬ (r = 0 ∧ j = 0) → ¬ (r = 100 + k ∧ j = 3) → V' r j = V r j) ∧ r = some (.int (V (100 + k) 3))))) (zNo) := by
  have hnk : nk ≤ 8 := hM.2.1
  have hns : ns ≤ 6 := hM.2.2.1
  have hne : ne ≤ 64 := hM.2.2.2.1
  have hp2 : 2 ^ nk ≤ 256 := Nat.pow_le_pow_right (n := 2) (by decide) hnk
  refine z_entry hs0 hst (by decide) (Nat.le_of_ble_eq_true rfl) (fun p e s m args below meth c => ?_)
  refine z_aload_n 0 d_Mo_lie_0 rfl rfl ?_
  refine z_iconst (v := 0) d_Mo_lie_1 (by decide) ?_
  refine z_put zc_Mo 0 (by decide) qF_Mo_36 hM.mo rfl rfl rfl (Nat.le_of_ble_eq_true rfl) d_Mo_lie_2 ?_
  obtain ⟨V1, hM1, hK1, hF1, hT1⟩ := hM.putT 0
  refine z_aload_n 0 d_Mo_lie_5 rfl rfl ?_
  refine z_iload_n 1 d_Mo_lie_6 rfl rfl ?_
  refine z_callV0 (m_Mo_isKeeper hs0 hst hM1 x) ym_Mo_isKeeper qM_Mo_125 qI_Mo_isKeeper qV_Mo_Mo_isKeeper zc_Mo hM1.mo d_Mo_lie_7 rfl (Nat.le_of_ble_eq_true rfl) ⟨Nat.zero_le _, Nat.zero_le _⟩ ⟨Nat.le_of_ble_eq_true rfl, Nat.le_of_ble_eq_true rfl⟩ ?_
  refine z_if_ne 19 d_Mo_lie_10 (by decide) (fun c_10 => ?_) (fun c_10 => ?_)
  · skip
    obtain ⟨ki, hki, rfl⟩ := zin_n ((zb_n0 _).mp c_10) (by omega)
    refine z_iload_n 2 d_Mo_lie_19 rfl rfl ?_
    refine z_iconst (v := 0) d_Mo_lie_20 (by decide) ?_
    refine z_bipush (v := 96) d_Mo_lie_21 (by decide) ?_
    refine z_callS0 (m_Mo_in hs0 hst w 0 _) ym_Mo_in qM_Mo_115 qS_Mo_in d_Mo_lie_23 rfl (Nat.le_of_ble_eq_true rfl) ⟨Nat.zero_le _, Nat.zero_le _⟩ ⟨Nat.le_of_ble_eq_true rfl, Nat.le_of_ble_eq_true rfl⟩ ?_
    refine z_if_ne 35 d_Mo_lie_26 (by decide) (fun c_26 => ?_) (fun c_26 => ?_)
    · skip
      refine z_aload_n 0 d_Mo_lie_35 rfl rfl ?_
      refine z_get zc_Mo 6 (by decide) qF_Mo_16 hM1.mo rfl d_Mo_lie_36 ?_
      refine z_iload_n 1 d_Mo_lie_39 rfl rfl ?_
      refine z_callF0 (m_AL_get hs0 hst (hM1.kA hki) hki (if_pos hki)) ym_AL_get zF_AL_get qM_Mo_51 zc_AL (hM1.kA hki).1 d_Mo_lie_40 rfl (Nat.le_of_ble_eq_true rfl) ⟨Nat.zero_le _, Nat.zero_le _⟩ ⟨Nat.le_of_ble_eq_true rfl, Nat.le_of_ble_eq_true rfl⟩ ?_
      refine z_castS zc_MK qK_Mo_57 (hM1.ke hki) d_Mo_lie_45 ?_
      refine z_get zc_MK 3 (by decide) qF_Mo_59 (hM1.ke hki) rfl d_Mo_lie_48 ?_
      refine z_istore_n (L' := [(3, _), (0, _), (1, _), (2, _)]) d_Mo_lie_51 rfl (by decide) rfl ?_
      refine z_aload_n 1 d_Mo_lie_52 rfl rfl ?_
      refine z_get zc_Mo 6 (by decide) qF_Mo_16 hM1.mo rfl d_Mo_lie_53 ?_
      refine z_iload_n 2 d_Mo_lie_56 rfl rfl ?_
      refine z_callF0 (m_AL_get hs0 hst (hM1.kA hki) hki (if_pos hki)) ym_AL_get zF_AL_get qM_Mo_51 zc_AL (hM1.kA hki).1 d_Mo_lie_57 rfl (Nat.le_of_ble_eq_true rfl) ⟨Nat.zero_le _, Nat.zero_le _⟩ ⟨Nat.le_of_ble_eq_true rfl, Nat.le_of_ble_eq_true rfl⟩ ?_
      refine z_castS zc_MK qK_Mo_57 (hM1.ke hki) d_Mo_lie_62 ?_
      refine z_iload_n 3 d_Mo_lie_65 rfl rfl ?_
      refine z_put zc_MK 3 (by decide) qF_Mo_59 (hM1.ke hki) rfl rfl rfl (Nat.le_of_ble_eq_true rfl) d_Mo_lie_66 ?_
      refine z_iload_n 0 d_Mo_lie_69 rfl rfl ?_
      exact z_iret rfl (by
          obtain ⟨b, eb⟩ := hM1.no hki
          have hp := hM1.putk hki w b
          rw [← eb] at hp
          refine ⟨_, hp.1, hF1.tr hp.2, Or.inr (Or.inr ⟨ki, hki, rfl, (zb_n0 _).mp c_26, (congrFun (rset_n (by omega)) 0).trans hT1, congrFun rset_s 3, fun r j hr h0 hn => ?_, by rw [hK1 (100 + ki) 3 (by unfold zmo_; omega) (by omega)]⟩)⟩
          by_cases e : r = 100 + ki
          · subst e
            have hj : j = 0 ∨ j = 1 ∨ j = 2 := by unfold zmo_ at hr; omega
            rw [← hK1 _ j hr h0, rset_s]
            rcases hj with rfl | rfl | rfl <;> rfl
          · rw [rset_n e]; exact hK1 r j hr h0) (by first | decide | omega) (by first | decide | omega) d_Mo_lie_70
    · skip
      refine z_aload_n 0 d_Mo_lie_29 rfl rfl ?_
      refine z_iconst (v := 2) d_Mo_lie_30 (by decide) ?_
      refine z_callV0 (m_Mo_no hs0 hst hM1.mo 2) ym_Mo_no qM_Mo_119 qI_Mo_no qV_Mo_Mo_no zc_Mo hM1.mo d_Mo_lie_31 rfl (Nat.le_of_ble_eq_true rfl) ⟨Nat.zero_le _, Nat.zero_le _⟩ ⟨Nat.le_of_ble_eq_true rfl, Nat.le_of_ble_eq_true rfl⟩ ?_
      obtain ⟨V9, hM9, hK9, hF9, hT9⟩ := hM1.putT 2
      exact z_iret rfl (⟨V9, hM9, hF1.tr hF9, Or.inr (Or.inl ⟨⟨ki, hki, rfl⟩, (zb_0 _).mp c_26, hT9, hK1.tr hK9, rfl⟩)⟩) (by first | decide | omega) (by first | decide | omega) d_Mo_lie_34
  · skip
    refine z_aload_n 0 d_Mo_lie_13 rfl rfl ?_
    refine z_iconst (v := 1) d_Mo_lie_14 (by decide) ?_
    refine z_callV0 (m_Mo_no hs0 hst hM1.mo 1) ym_Mo_no qM_Mo_119 qI_Mo_no qV_Mo_Mo_no zc_Mo hM1.mo d_Mo_lie_15 rfl (Nat.le_of_ble_eq_true rfl) ⟨Nat.zero_le _, Nat.zero_le _⟩ ⟨Nat.le_of_ble_eq_true rfl, Nat.le_of_ble_eq_true rfl⟩ ?_
    obtain ⟨V9, hM9, hK9, hF9, hT9⟩ := hM1.putT 1
    exact z_iret rfl (⟨V9, hM9, hF1.tr hF9, Or.inl ⟨(zb_0 _).mp c_10, hT9, hK1.tr hK9, rfl⟩⟩) (by first | decide | omega) (by first | decide | omega) d_Mo_lie_18
theorem d_Mo_freeze_0 : decode c_Mo_freeze 0 = .ok (.aload_n 0, 1) := by decide +kernel
theorem d_Mo_freeze_1 : decode c_Mo_freeze 1 = .ok (.iconst 0, 1) := by decide +kernel
theorem d_Mo_freeze_2 : decode c_Mo_freeze 2 = .ok (.putfield 36, 3) := by decide +kernel
theorem d_Mo_freeze_5 : decode c_Mo_freeze 5 = .ok (.iload_n 1, 1) := by decide +kernel
theorem d_Mo_freeze_6 : decode c_Mo_freeze 6 = .ok (.iconst 0, 1) := by decide +kernel
theorem d_Mo_freeze_7 : decode c_Mo_freeze 7 = .ok (.iconst 1, 1) := by decide +kernel
theorem d_Mo_freeze_8 : decode c_Mo_freeze 8 = .ok (.invokestatic 115, 3) := by decide +kernel
theorem d_Mo_freeze_11 : decode c_Mo_freeze 11 = .ok (.ifCond .eq 11, 3) := by decide +kernel
theorem d_Mo_freeze_14 : decode c_Mo_freeze 14 = .ok (.aload_n 0, 1) := by decide +kernel
theorem d_Mo_freeze_15 : decode c_Mo_freeze 15 = .ok (.iload_n 2, 1) := by decide +kernel
theorem d_Mo_freeze_16 : decode c_Mo_freeze 16 = .ok (.invokevirtual 147, 3) := by decide +kernel
theorem d_Mo_freeze_19 : decode c_Mo_freeze 19 = .ok (.ifCond .ne 9, 3) := by decide +kernel
theorem d_Mo_freeze_22 : decode c_Mo_freeze 22 = .ok (.aload_n 0, 1) := by decide +kernel
theorem d_Mo_freeze_23 : decode c_Mo_freeze 23 = .ok (.iconst 1, 1) := by decide +kernel
theorem d_Mo_freeze_24 : decode c_Mo_freeze 24 = .ok (.invokevirtual 119, 3) := by decide +kernel
theorem d_Mo_freeze_27 : decode c_Mo_freeze 27 = .ok (.ireturn, 1) := by decide +kernel
theorem d_Mo_freeze_28 : decode c_Mo_freeze 28 = .ok (.aload_n 0, 1) := by decide +kernel
theorem d_Mo_freeze_29 : decode c_Mo_freeze 29 = .ok (.getfield 20, 3) := by decide +kernel
theorem d_Mo_freeze_32 : decode c_Mo_freeze 32 = .ok (.iload_n 2, 1) := by decide +kernel
theorem d_Mo_freeze_33 : decode c_Mo_freeze 33 = .ok (.invokeinterface 51 2, 5) := by decide +kernel
theorem d_Mo_freeze_38 : decode c_Mo_freeze 38 = .ok (.checkcast 47, 3) := by decide +kernel
theorem d_Mo_freeze_41 : decode c_Mo_freeze 41 = .ok (.astore 4, 2) := by decide +kernel
theorem d_Mo_freeze_43 : decode c_Mo_freeze 43 = .ok (.aload 4, 2) := by decide +kernel
theorem d_Mo_freeze_45 : decode c_Mo_freeze 45 = .ok (.iload_n 3, 1) := by decide +kernel
theorem d_Mo_freeze_46 : decode c_Mo_freeze 46 = .ok (.ifCond .eq 15, 3) := by decide +kernel
theorem d_Mo_freeze_49 : decode c_Mo_freeze 49 = .ok (.aload 4, 2) := by decide +kernel
theorem d_Mo_freeze_51 : decode c_Mo_freeze 51 = .ok (.getfield 108, 3) := by decide +kernel
theorem d_Mo_freeze_54 : decode c_Mo_freeze 54 = .ok (.iconst 1, 1) := by decide +kernel
theorem d_Mo_freeze_55 : decode c_Mo_freeze 55 = .ok (.iload_n 1, 1) := by decide +kernel
theorem d_Mo_freeze_56 : decode c_Mo_freeze 56 = .ok (.ishl, 1) := by decide +kernel
theorem d_Mo_freeze_57 : decode c_Mo_freeze 57 = .ok (.ior, 1) := by decide +kernel
theorem d_Mo_freeze_58 : decode c_Mo_freeze 58 = .ok (.goto 14, 3) := by decide +kernel
theorem d_Mo_freeze_61 : decode c_Mo_freeze 61 = .ok (.aload 4, 2) := by decide +kernel
theorem d_Mo_freeze_63 : decode c_Mo_freeze 63 = .ok (.getfield 108, 3) := by decide +kernel
theorem d_Mo_freeze_66 : decode c_Mo_freeze 66 = .ok (.iconst 1, 1) := by decide +kernel
theorem d_Mo_freeze_67 : decode c_Mo_freeze 67 = .ok (.iload_n 1, 1) := by decide +kernel
theorem d_Mo_freeze_68 : decode c_Mo_freeze 68 = .ok (.ishl, 1) := by decide +kernel
theorem d_Mo_freeze_69 : decode c_Mo_freeze 69 = .ok (.iconst (-1), 1) := by decide +kernel
theorem d_Mo_freeze_70 : decode c_Mo_freeze 70 = .ok (.ixor, 1) := by decide +kernel
theorem d_Mo_freeze_71 : decode c_Mo_freeze 71 = .ok (.iand, 1) := by decide +kernel
theorem d_Mo_freeze_72 : decode c_Mo_freeze 72 = .ok (.putfield 108, 3) := by decide +kernel
theorem d_Mo_freeze_75 : decode c_Mo_freeze 75 = .ok (.aload 4, 2) := by decide +kernel
theorem d_Mo_freeze_77 : decode c_Mo_freeze 77 = .ok (.getfield 108, 3) := by decide +kernel
theorem d_Mo_freeze_80 : decode c_Mo_freeze 80 = .ok (.invokestatic 66, 3) := by decide +kernel
theorem d_Mo_freeze_83 : decode c_Mo_freeze 83 = .ok (.ireturn, 1) := by decide +kernel
set_option maxHeartbeats 4000000 in
set_option maxRecDepth 100000 in
theorem m_Mo_freeze {g0 : State} {d : zD} {l : Launch} {a0 : Array Value} (hs0 : zS0 d a0 g0) (hst : l.stackTraces = false) {G : zG} {B : Nat → Nat} {V : Nat → Nat → Int32} {nk ns ne ec : Nat} (hM : zM d B V nk ns ne ec G) (x w x3 : Int32) : zMet g0 d l y_Mo_freeze c_Mo_freeze 5 ((Option.some Jvm.ClassFile.FieldType.int)) 11 0 0 [.ref (B 0), .int x, .int w, .int x3] (G) (fun r G1 => ∃ V', zM d B V' nk ns ne ec G1 ∧ mFr B nk ns ne G G1 ∧ (((zin x 0 1 = false ∨ zin w 0 (nI ns - 1) = false) ∧ V' 0 0 = 1 ∧ zKn V V' ∧ r = some (.int 0)) ∨ (∃ k, k < ns ∧ w = nI k ∧ zin x 0 1 = true ∧ V' 0 0 = 0 ∧ V' (200 + k) 4 = (if x3 = 0 then V (200 + k) 4 &&& ((1 <<< (x &&& 31)) ^^^ (-1)) else V (200 + k) 4 ||| (1 <<< (x &&& 31))) ∧ (∀ r j, zmo_ r j → ¬ (r = 0 ∧ j = 0) → ¬ (r = 200 + k ∧ j = 4) → V' r j = V r j) ∧ ∃ v, r = some (.int v) ∧ ∀ n, n < 512 → (if x3 = 0 then V (200 + k) 4 &&& ((1 <<< (x &&& 31)) ^^^ (-1)) else V (200 + k) 4 ||| (1 <<< (x &&& 31))) = nI n → v = nI (zpop 9 n)))) (zNo) := by
  have hnk : nk ≤ 8 := hM.2.1
  have hns : ns ≤ 6 := hM.2.2.1
  have hne : ne ≤ 64 := hM.2.2.2.1
  have hp2 : 2 ^ nk ≤ 256 := Nat.pow_le_pow_right (n := 2) (by decide) hnk
  refine z_entry hs0 hst (by decide) (Nat.le_of_ble_eq_true rfl) (fun p e s m args below meth c => ?_)
  refine z_aload_n 0 d_Mo_freeze_0 rfl rfl ?_
  refine z_iconst (v := 0) d_Mo_freeze_1 (by decide) ?_
  refine z_put zc_Mo 0 (by decide) qF_Mo_36 hM.mo rfl rfl rfl (Nat.le_of_ble_eq_true rfl) d_Mo_freeze_2 ?_
  obtain ⟨V1, hM1, hK1, hF1, hT1⟩ := hM.putT 0
  refine z_iload_n 1 d_Mo_freeze_5 rfl rfl ?_
  refine z_iconst (v := 0) d_Mo_freeze_6 (by decide) ?_
  refine z_iconst (v := 1) d_Mo_freeze_7 (by decide) ?_
  refine z_callS0 (m_Mo_in hs0 hst x 0 _) ym_Mo_in qM_Mo_115 qS_Mo_in d_Mo_freeze_8 rfl (Nat.le_of_ble_eq_true rfl) ⟨Nat.zero_le _, Nat.zero_le _⟩ ⟨Nat.le_of_ble_eq_true rfl, Nat.le_of_ble_eq_true rfl⟩ ?_
  refine z_if_eq 22 d_Mo_freeze_11 (by decide) (fun c_11 => ?_) (fun c_11 => ?_)
  · skip
    refine z_aload_n 0 d_Mo_freeze_22 rfl rfl ?_
    refine z_iconst (v := 1) d_Mo_freeze_23 (by decide) ?_
    refine z_callV0 (m_Mo_no hs0 hst hM1.mo 1) ym_Mo_no qM_Mo_119 qI_Mo_no qV_Mo_Mo_no zc_Mo hM1.mo d_Mo_freeze_24 rfl (Nat.le_of_ble_eq_true rfl) ⟨Nat.zero_le _, Nat.zero_le _⟩ ⟨Nat.le_of_ble_eq_true rfl, Nat.le_of_ble_eq_true rfl⟩ ?_
    obtain ⟨V9, hM9, hK9, hF9, hT9⟩ := hM1.putT 1
    exact z_iret rfl (⟨V9, hM9, hF1.tr hF9, Or.inl ⟨by first | exact Or.inl ((zb_0 _).mp c_11) | exact Or.inr ((zb_0 _).mp c_19), hT9, hK1.tr hK9, rfl⟩⟩) (by first | decide | omega) (by first | decide | omega) d_Mo_freeze_27
  · skip
    refine z_aload_n 0 d_Mo_freeze_14 rfl rfl ?_
    refine z_iload_n 2 d_Mo_freeze_15 rfl rfl ?_
    refine z_callV0 (m_Mo_isSecret hs0 hst hM1 w) ym_Mo_isSecret qM_Mo_147 qI_Mo_isSecret qV_Mo_Mo_isSecret zc_Mo hM1.mo d_Mo_freeze_16 rfl (Nat.le_of_ble_eq_true rfl) ⟨Nat.zero_le _, Nat.zero_le _⟩ ⟨Nat.le_of_ble_eq_true rfl, Nat.le_of_ble_eq_true rfl⟩ ?_
    refine z_if_ne 28 d_Mo_freeze_19 (by decide) (fun c_19 => ?_) (fun c_19 => ?_)
    · skip
      obtain ⟨si, hsi, rfl⟩ := zin_n ((zb_n0 _).mp c_19) (by omega)
      refine z_aload_n 0 d_Mo_freeze_28 rfl rfl ?_
      refine z_get zc_Mo 7 (by decide) qF_Mo_20 hM1.mo rfl d_Mo_freeze_29 ?_
      refine z_iload_n 2 d_Mo_freeze_32 rfl rfl ?_
      refine z_callF0 (m_AL_get hs0 hst (hM1.sA hsi) hsi (if_pos hsi)) ym_AL_get zF_AL_get qM_Mo_51 zc_AL (hM1.sA hsi).1 d_Mo_freeze_33 rfl (Nat.le_of_ble_eq_true rfl) ⟨Nat.zero_le _, Nat.zero_le _⟩ ⟨Nat.le_of_ble_eq_true rfl, Nat.le_of_ble_eq_true rfl⟩ ?_
      refine z_castS zc_MS qK_Mo_47 (hM1.se hsi).1 d_Mo_freeze_38 ?_
      refine z_astore (L' := [(4, _), (0, _), (1, _), (2, _), (3, _)]) d_Mo_freeze_41 (by decide) rfl ?_
      refine z_aload 0 d_Mo_freeze_43 rfl ?_
      refine z_iload_n 4 d_Mo_freeze_45 rfl rfl ?_
      refine z_if_eq 61 d_Mo_freeze_46 (by decide) (fun c_46 => ?_) (fun c_46 => ?_)
      · skip
        refine z_aload 0 d_Mo_freeze_61 rfl ?_
        refine z_get zc_MS 4 (by decide) qF_Mo_108 (hM1.se hsi).1 rfl d_Mo_freeze_63 ?_
        refine z_iconst (v := 1) d_Mo_freeze_66 (by decide) ?_
        refine z_iload_n 2 d_Mo_freeze_67 rfl rfl ?_
        refine z_ishl d_Mo_freeze_68 ?_
        refine z_iconst (v := (-1)) d_Mo_freeze_69 (by decide) ?_
        refine z_ixor d_Mo_freeze_70 ?_
        refine z_iand d_Mo_freeze_71 ?_
        refine z_put zc_MS 4 (by decide) qF_Mo_108 (hM1.se hsi).1 rfl rfl rfl (Nat.le_of_ble_eq_true rfl) d_Mo_freeze_72 ?_
        refine z_aload 0 d_Mo_freeze_75 rfl ?_
        refine z_get zc_MS 4 (by decide) qF_Mo_108 zu_s rfl d_Mo_freeze_77 ?_
        refine z_callSp0 ((m_Mo_sizeX hs0 hst _)) ym_Mo_size qM_Mo_66 qS_Mo_size d_Mo_freeze_80 rfl (Nat.le_of_ble_eq_true rfl) ⟨Nat.zero_le _, Nat.zero_le _⟩ ⟨Nat.le_of_ble_eq_true rfl, Nat.le_of_ble_eq_true rfl⟩ (fun r_80 G_80 hp_80 => ?_)
        obtain ⟨⟨v9, rfl, hv9⟩, rfl⟩ := hp_80
        exact z_iret rfl (by
            obtain ⟨b, eb⟩ := hM1.ta hsi
            have e4 := hK1 (200 + si) 4 (by unfold zmo_; omega) (by omega)
            have hp := fun a : Int32 => hM1.puts hsi (V1 (200 + si) 3) a b
            rw [← eb] at hp
            refine ⟨_, (hp _).1, hF1.tr (hp _).2, Or.inr ⟨si, hsi, rfl, (zb_n0 _).mp c_11, (congrFun (rset_n (by omega)) 0).trans hT1, (congrFun rset_s 4).trans ?_, fun r j hr h0 hn => ?_, v9, rfl, fun n hn e => hv9 n hn ?_⟩⟩
            · first
                | rw [if_pos c_46, ← e4]; rfl
                | rw [if_neg c_46, ← e4]; rfl
            · by_cases e : r = 200 + si
              · subst e
                have hj : j = 0 ∨ j = 1 ∨ j = 2 := by unfold zmo_ at hr; omega
                rw [← hK1 _ j hr h0, rset_s]
                rcases hj with rfl | rfl | rfl <;> rfl
              · rw [rset_n e]; exact hK1 r j hr h0
            · rw [← e]
              first
                | rw [if_pos c_46, ← e4]
                | rw [if_neg c_46, ← e4]) (by first | decide | omega) (by first | decide | omega) d_Mo_freeze_83
      · skip
        refine z_aload 0 d_Mo_freeze_49 rfl ?_
        refine z_get zc_MS 4 (by decide) qF_Mo_108 (hM1.se hsi).1 rfl d_Mo_freeze_51 ?_
        refine z_iconst (v := 1) d_Mo_freeze_54 (by decide) ?_
        refine z_iload_n 2 d_Mo_freeze_55 rfl rfl ?_
        refine z_ishl d_Mo_freeze_56 ?_
        refine z_ior d_Mo_freeze_57 ?_
        refine z_goto 72 d_Mo_freeze_58 (by decide) ?_
        refine z_put zc_MS 4 (by decide) qF_Mo_108 (hM1.se hsi).1 rfl rfl rfl (Nat.le_of_ble_eq_true rfl) d_Mo_freeze_72 ?_
        refine z_aload 0 d_Mo_freeze_75 rfl ?_
        refine z_get zc_MS 4 (by decide) qF_Mo_108 zu_s rfl d_Mo_freeze_77 ?_
        refine z_callSp0 ((m_Mo_sizeX hs0 hst _)) ym_Mo_size qM_Mo_66 qS_Mo_size d_Mo_freeze_80 rfl (Nat.le_of_ble_eq_true rfl) ⟨Nat.zero_le _, Nat.zero_le _⟩ ⟨Nat.le_of_ble_eq_true rfl, Nat.le_of_ble_eq_true rfl⟩ (fun r_80 G_80 hp_80 => ?_)
        obtain ⟨⟨v9, rfl, hv9⟩, rfl⟩ := hp_80
        exact z_iret rfl (by
            obtain ⟨b, eb⟩ := hM1.ta hsi
            have e4 := hK1 (200 + si) 4 (by unfold zmo_; omega) (by omega)
            have hp := fun a : Int32 => hM1.puts hsi (V1 (200 + si) 3) a b
            rw [← eb] at hp
            refine ⟨_, (hp _).1, hF1.tr (hp _).2, Or.inr ⟨si, hsi, rfl, (zb_n0 _).mp c_11, (congrFun (rset_n (by omega)) 0).trans hT1, (congrFun rset_s 4).trans ?_, fun r j hr h0 hn => ?_, v9, rfl, fun n hn e => hv9 n hn ?_⟩⟩
            · first
                | rw [if_pos c_46, ← e4]; rfl
                | rw [if_neg c_46, ← e4]; rfl
            · by_cases e : r = 200 + si
              · subst e
                have hj : j = 0 ∨ j = 1 ∨ j = 2 := by unfold zmo_ at hr; omega
                rw [← hK1 _ j hr h0, rset_s]
                rcases hj with rfl | rfl | rfl <;> rfl
              · rw [rset_n e]; exact hK1 r j hr h0
            · rw [← e]
              first
                | rw [if_pos c_46, ← e4]
                | rw [if_neg c_46, ← e4]) (by first | decide | omega) (by first | decide | omega) d_Mo_freeze_83
    · skip
      refine z_aload_n 0 d_Mo_freeze_22 rfl rfl ?_
      refine z_iconst (v := 1) d_Mo_freeze_23 (by decide) ?_
      refine z_callV0 (m_Mo_no hs0 hst hM1.mo 1) ym_Mo_no qM_Mo_119 qI_Mo_no qV_Mo_Mo_no zc_Mo hM1.mo d_Mo_freeze_24 rfl (Nat.le_of_ble_eq_true rfl) ⟨Nat.zero_le _, Nat.zero_le _⟩ ⟨Nat.le_of_ble_eq_true rfl, Nat.le_of_ble_eq_true rfl⟩ ?_
      obtain ⟨V9, hM9, hK9, hF9, hT9⟩ := hM1.putT 1
      exact z_iret rfl (⟨V9, hM9, hF1.tr hF9, Or.inl ⟨by first | exact Or.inl ((zb_0 _).mp c_11) | exact Or.inr ((zb_0 _).mp c_19), hT9, hK1.tr hK9, rfl⟩⟩) (by first | decide | omega) (by first | decide | omega) d_Mo_freeze_27
theorem d_Mo_flood_0 : decode c_Mo_flood 0 = .ok (.aload_n 0, 1) := by decide +kernel
theorem d_Mo_flood_1 : decode c_Mo_flood 1 = .ok (.iconst 0, 1) := by decide +kernel
theorem d_Mo_flood_2 : decode c_Mo_flood 2 = .ok (.putfield 36, 3) := by decide +kernel
theorem d_Mo_flood_5 : decode c_Mo_flood 5 = .ok (.iload_n 1, 1) := by decide +kernel
theorem d_Mo_flood_6 : decode c_Mo_flood 6 = .ok (.iconst 0, 1) := by decide +kernel
theorem d_Mo_flood_7 : decode c_Mo_flood 7 = .ok (.iconst 3, 1) := by decide +kernel
theorem d_Mo_flood_8 : decode c_Mo_flood 8 = .ok (.invokestatic 115, 3) := by decide +kernel
theorem d_Mo_flood_11 : decode c_Mo_flood 11 = .ok (.ifCond .ne 9, 3) := by decide +kernel
theorem d_Mo_flood_14 : decode c_Mo_flood 14 = .ok (.aload_n 0, 1) := by decide +kernel
theorem d_Mo_flood_15 : decode c_Mo_flood 15 = .ok (.iconst 1, 1) := by decide +kernel
theorem d_Mo_flood_16 : decode c_Mo_flood 16 = .ok (.invokevirtual 119, 3) := by decide +kernel
theorem d_Mo_flood_19 : decode c_Mo_flood 19 = .ok (.ireturn, 1) := by decide +kernel
theorem d_Mo_flood_20 : decode c_Mo_flood 20 = .ok (.iconst 0, 1) := by decide +kernel
theorem d_Mo_flood_21 : decode c_Mo_flood 21 = .ok (.istore_n 2, 1) := by decide +kernel
theorem d_Mo_flood_22 : decode c_Mo_flood 22 = .ok (.iconst 0, 1) := by decide +kernel
theorem d_Mo_flood_23 : decode c_Mo_flood 23 = .ok (.istore_n 3, 1) := by decide +kernel
theorem d_Mo_flood_24 : decode c_Mo_flood 24 = .ok (.iload_n 3, 1) := by decide +kernel
theorem d_Mo_flood_25 : decode c_Mo_flood 25 = .ok (.aload_n 0, 1) := by decide +kernel
theorem d_Mo_flood_26 : decode c_Mo_flood 26 = .ok (.getfield 20, 3) := by decide +kernel
theorem d_Mo_flood_29 : decode c_Mo_flood 29 = .ok (.invokeinterface 94 1, 5) := by decide +kernel
theorem d_Mo_flood_34 : decode c_Mo_flood 34 = .ok (.if_icmp .ge 104, 3) := by decide +kernel
theorem d_Mo_flood_37 : decode c_Mo_flood 37 = .ok (.iconst 0, 1) := by decide +kernel
theorem d_Mo_flood_38 : decode c_Mo_flood 38 = .ok (.istore 4, 2) := by decide +kernel
theorem d_Mo_flood_40 : decode c_Mo_flood 40 = .ok (.iload 4, 2) := by decide +kernel
theorem d_Mo_flood_42 : decode c_Mo_flood 42 = .ok (.aload_n 0, 1) := by decide +kernel
theorem d_Mo_flood_43 : decode c_Mo_flood 43 = .ok (.getfield 16, 3) := by decide +kernel
theorem d_Mo_flood_46 : decode c_Mo_flood 46 = .ok (.invokeinterface 94 1, 5) := by decide +kernel
theorem d_Mo_flood_51 : decode c_Mo_flood 51 = .ok (.if_icmp .ge 81, 3) := by decide +kernel
theorem d_Mo_flood_54 : decode c_Mo_flood 54 = .ok (.aload_n 0, 1) := by decide +kernel
theorem d_Mo_flood_55 : decode c_Mo_flood 55 = .ok (.getfield 20, 3) := by decide +kernel
theorem d_Mo_flood_58 : decode c_Mo_flood 58 = .ok (.iload_n 3, 1) := by decide +kernel
theorem d_Mo_flood_59 : decode c_Mo_flood 59 = .ok (.invokeinterface 51 2, 5) := by decide +kernel
theorem d_Mo_flood_64 : decode c_Mo_flood 64 = .ok (.checkcast 47, 3) := by decide +kernel
theorem d_Mo_flood_67 : decode c_Mo_flood 67 = .ok (.astore 5, 2) := by decide +kernel
theorem d_Mo_flood_69 : decode c_Mo_flood 69 = .ok (.aload_n 0, 1) := by decide +kernel
theorem d_Mo_flood_70 : decode c_Mo_flood 70 = .ok (.getfield 16, 3) := by decide +kernel
theorem d_Mo_flood_73 : decode c_Mo_flood 73 = .ok (.iload 4, 2) := by decide +kernel
theorem d_Mo_flood_75 : decode c_Mo_flood 75 = .ok (.invokeinterface 51 2, 5) := by decide +kernel
theorem d_Mo_flood_80 : decode c_Mo_flood 80 = .ok (.checkcast 57, 3) := by decide +kernel
theorem d_Mo_flood_83 : decode c_Mo_flood 83 = .ok (.getfield 96, 3) := by decide +kernel
theorem d_Mo_flood_86 : decode c_Mo_flood 86 = .ok (.iload_n 1, 1) := by decide +kernel
theorem d_Mo_flood_87 : decode c_Mo_flood 87 = .ok (.if_icmp .ne 39, 3) := by decide +kernel
theorem d_Mo_flood_90 : decode c_Mo_flood 90 = .ok (.aload 5, 2) := by decide +kernel
theorem d_Mo_flood_92 : decode c_Mo_flood 92 = .ok (.getfield 46, 3) := by decide +kernel
theorem d_Mo_flood_95 : decode c_Mo_flood 95 = .ok (.iload 4, 2) := by decide +kernel
theorem d_Mo_flood_97 : decode c_Mo_flood 97 = .ok (.iaload, 1) := by decide +kernel
theorem d_Mo_flood_98 : decode c_Mo_flood 98 = .ok (.iconst (-1), 1) := by decide +kernel
theorem d_Mo_flood_99 : decode c_Mo_flood 99 = .ok (.if_icmp .ne 6, 3) := by decide +kernel
theorem d_Mo_flood_102 : decode c_Mo_flood 102 = .ok (.goto 24, 3) := by decide +kernel
theorem d_Mo_flood_105 : decode c_Mo_flood 105 = .ok (.aload 5, 2) := by decide +kernel
theorem d_Mo_flood_107 : decode c_Mo_flood 107 = .ok (.getfield 46, 3) := by decide +kernel
theorem d_Mo_flood_110 : decode c_Mo_flood 110 = .ok (.iload 4, 2) := by decide +kernel
theorem d_Mo_flood_112 : decode c_Mo_flood 112 = .ok (.iconst (-1), 1) := by decide +kernel
theorem d_Mo_flood_113 : decode c_Mo_flood 113 = .ok (.iastore, 1) := by decide +kernel
theorem d_Mo_flood_114 : decode c_Mo_flood 114 = .ok (.aload 5, 2) := by decide +kernel
theorem d_Mo_flood_116 : decode c_Mo_flood 116 = .ok (.getfield 140, 3) := by decide +kernel
theorem d_Mo_flood_119 : decode c_Mo_flood 119 = .ok (.iload 4, 2) := by decide +kernel
theorem d_Mo_flood_121 : decode c_Mo_flood 121 = .ok (.iconst (-1), 1) := by decide +kernel
theorem d_Mo_flood_122 : decode c_Mo_flood 122 = .ok (.iastore, 1) := by decide +kernel
theorem d_Mo_flood_123 : decode c_Mo_flood 123 = .ok (.iinc 2 1, 3) := by decide +kernel
theorem d_Mo_flood_126 : decode c_Mo_flood 126 = .ok (.iinc 4 1, 3) := by decide +kernel
theorem d_Mo_flood_129 : decode c_Mo_flood 129 = .ok (.goto (-89), 3) := by decide +kernel
theorem d_Mo_flood_132 : decode c_Mo_flood 132 = .ok (.iinc 3 1, 3) := by decide +kernel
theorem d_Mo_flood_135 : decode c_Mo_flood 135 = .ok (.goto (-111), 3) := by decide +kernel
theorem d_Mo_flood_138 : decode c_Mo_flood 138 = .ok (.aload_n 0, 1) := by decide +kernel
theorem d_Mo_flood_139 : decode c_Mo_flood 139 = .ok (.iconst 2, 1) := by decide +kernel
theorem d_Mo_flood_140 : decode c_Mo_flood 140 = .ok (.iload_n 1, 1) := by decide +kernel
theorem d_Mo_flood_141 : decode c_Mo_flood 141 = .ok (.invokevirtual 143, 3) := by decide +kernel
theorem d_Mo_flood_144 : decode c_Mo_flood 144 = .ok (.iload_n 2, 1) := by decide +kernel
theorem d_Mo_flood_145 : decode c_Mo_flood 145 = .ok (.ireturn, 1) := by decide +kernel
set_option maxHeartbeats 4000000 in
set_option maxRecDepth 100000 in
theorem m_Mo_flood {g0 : State} {d : zD} {l : Launch} {a0 : Array Value} (hs0 : zS0 d a0 g0) (hst : l.stackTraces = false) {G : zG} {B : Nat → Nat} {V : Nat → Nat → Int32} {nk ns ne ec : Nat} (hM : zM d B V nk ns ne ec G) (x : Int32) : zMet g0 d l y_Mo_flood c_Mo_flood 6 ((Option.some Jvm.ClassFile.FieldType.int)) 11 2 84 [.ref (B 0), .int x] (G) (mTq d B nk ns ne V G zrI) (zNo) := by
  have hnk : nk ≤ 8 := hM.2.1
  have hns : ns ≤ 6 := hM.2.2.1
  have hne : ne ≤ 64 := hM.2.2.2.1
  have hp2 : 2 ^ nk ≤ 256 := Nat.pow_le_pow_right (n := 2) (by decide) hnk
  refine z_entry hs0 hst (by decide) (Nat.le_of_ble_eq_true rfl) (fun p e s m args below meth c => ?_)
  refine z_aload_n 0 d_Mo_flood_0 rfl rfl ?_
  refine z_iconst (v := 0) d_Mo_flood_1 (by decide) ?_
  refine z_put zc_Mo 0 (by decide) qF_Mo_36 hM.mo rfl rfl rfl (Nat.le_of_ble_eq_true rfl) d_Mo_flood_2 ?_
  obtain ⟨V1, hM1, hK1, hF1, hT1⟩ := hM.putT 0
  refine z_iload_n 1 d_Mo_flood_5 rfl rfl ?_
  refine z_iconst (v := 0) d_Mo_flood_6 (by decide) ?_
  refine z_iconst (v := 3) d_Mo_flood_7 (by decide) ?_
  refine z_callS0 (m_Mo_in hs0 hst x 0 _) ym_Mo_in qM_Mo_115 qS_Mo_in d_Mo_flood_8 rfl (Nat.le_of_ble_eq_true rfl) ⟨by decide, by decide⟩ ⟨Nat.le_of_ble_eq_true rfl, Nat.le_of_ble_eq_true rfl⟩ ?_
  refine z_if_ne 20 d_Mo_flood_11 (by decide) (fun c_11 => ?_) (fun c_11 => ?_)
  · skip
    refine z_iconst (v := (nI 0)) d_Mo_flood_20 (by decide) ?_
    refine z_istore_n (L' := [(2, _), (0, _), (1, _)]) d_Mo_flood_21 rfl (by decide) rfl ?_
    refine z_iconst (v := (nI 0)) d_Mo_flood_22 (by decide) ?_
    refine z_istore_n (L' := [(3, _), (2, _), (0, _), (1, _)]) d_Mo_flood_23 rfl (by decide) rfl ?_
    have key_24 : ∀ (n : Nat) (i : Nat) (G2 : zG) (V2 : Nat → Nat → Int32) (v : Int32), ns - i < n → (i ≤ ns) → (zM d B V2 nk ns ne ec G2) → (zKm V1 V2) → (mFr B nk ns ne G G2) → Z g0 d y_Mo_flood c_Mo_flood 6 ((Option.some Jvm.ClassFile.FieldType.int)) [] p l e (zR 11 2 84) s m args below meth c (vx_MQ below (zQc g0 d (mTq d B nk ns ne V G zrI)) (zXc g0 d (zNo)) args s 2 84 (zA g0)) 0 0 (G2) [(3, .int (nI i)), (2, .int v), (0, .ref (B 0)), (1, .int x)] [] 24 := by
      intro n
      induction n with
      | zero => intro i G2 V2 v h0; exact absurd h0 (Nat.not_lt_zero _)
      | succ n ih_24 =>
        intro i G2 V2 v hm_24 hi hM2 hK2 hF2
        refine z_iload_n 0 d_Mo_flood_24 rfl rfl ?_
        refine z_aload_n 2 d_Mo_flood_25 rfl rfl ?_
        refine z_get zc_Mo 7 (by decide) qF_Mo_20 hM2.mo rfl d_Mo_flood_26 ?_
        refine z_callF0 (m_AL_size hs0 hst hM2.sl) ym_AL_size zF_AL_size qM_Mo_94 zc_AL hM2.sl d_Mo_flood_29 rfl (Nat.le_of_ble_eq_true rfl) ⟨by decide, by decide⟩ ⟨Nat.le_of_ble_eq_true rfl, Nat.le_of_ble_eq_true rfl⟩ ?_
        refine z_icmp_ge 138 d_Mo_flood_34 (by decide) (fun c_34 => ?_) (fun c_34 => ?_)
        · skip
          refine z_aload_n 2 d_Mo_flood_138 rfl rfl ?_
          refine z_iconst (v := 2) d_Mo_flood_139 (by decide) ?_
          refine z_iload_n 3 d_Mo_flood_140 rfl rfl ?_
          refine z_callVp1 (m_Mo_write hs0 hst hM2 _ _) ym_Mo_write qM_Mo_143 qI_Mo_write qV_Mo_Mo_write zc_Mo hM2.mo d_Mo_flood_141 rfl (Nat.le_of_ble_eq_true rfl) ⟨by decide, by decide⟩ ⟨Nat.le_of_ble_eq_true rfl, Nat.le_of_ble_eq_true rfl⟩ (fun r_141 G_141 hp_141 => ?_)
          obtain ⟨hr_141, B7, V7, ne7, ec7, hM7, hK7, hN7, hF7, hB7⟩ := hp_141
          obtain rfl : r_141 = none := hr_141
          refine z_iload_n 1 d_Mo_flood_144 rfl rfl ?_
          exact z_iret rfl (⟨⟨_, rfl⟩, B7, V7, ne7, ec7, hM7, (hK1.tr hK2.n).tr hK7.n, mNw.rf.tr hN7 (hF2) hM.ne0, (hF2).tr hF7⟩) (by first | decide | omega) (by first | decide | omega) d_Mo_flood_145
        · skip
          have hi6 : i < ns := Nat.lt_of_not_le fun q => c_34 (nI_le q (by omega))
          refine z_iconst (v := (nI 0)) d_Mo_flood_37 (by decide) ?_
          refine z_istore (L' := [(4, _), (3, _), (2, _), (0, _), (1, _)]) d_Mo_flood_38 (by decide) rfl ?_
          have key_40 : ∀ (n : Nat) (j : Nat) (G4 : zG) (V4 : Nat → Nat → Int32) (v : Int32), nk - j < n → (j ≤ nk) → (zM d B V4 nk ns ne ec G4) → (zKm V1 V4) → (mFr B nk ns ne G G4) → Z g0 d y_Mo_flood c_Mo_flood 6 ((Option.some Jvm.ClassFile.FieldType.int)) [] p l e (zR 11 2 84) s m args below meth c (vx_MQ below (zQc g0 d (mTq d B nk ns ne V G zrI)) (zXc g0 d (zNo)) args s 2 84 (zA g0)) 0 0 (G4) [(4, .int (nI j)), (3, .int (nI i)), (2, .int v), (0, .ref (B 0)), (1, .int x)] [] 40 := by
            intro n
            induction n with
            | zero => intro j G4 V4 v h0; exact absurd h0 (Nat.not_lt_zero _)
            | succ n ih_40 =>
              intro j G4 V4 v hm_40 hj hM4 hK4 hF4
              refine z_iload 0 d_Mo_flood_40 rfl ?_
              refine z_aload_n 3 d_Mo_flood_42 rfl rfl ?_
              refine z_get zc_Mo 6 (by decide) qF_Mo_16 hM4.mo rfl d_Mo_flood_43 ?_
              refine z_callF0 (m_AL_size hs0 hst hM4.kl) ym_AL_size zF_AL_size qM_Mo_94 zc_AL hM4.kl d_Mo_flood_46 rfl (Nat.le_of_ble_eq_true rfl) ⟨by decide, by decide⟩ ⟨Nat.le_of_ble_eq_true rfl, Nat.le_of_ble_eq_true rfl⟩ ?_
              refine z_icmp_ge 132 d_Mo_flood_51 (by decide) (fun c_51 => ?_) (fun c_51 => ?_)
              · skip
                refine z_iinc (v := nI (i + 1)) (L' := [(3, _), (4, _), (2, _), (0, _), (1, _)]) 1 d_Mo_flood_132 rfl (nI_1 i) (by decide) rfl ?_
                refine z_goto 24 d_Mo_flood_135 (by decide) ?_
                refine z_sub (L' := [(3, _), (2, _), (0, _), (1, _)]) [0, 2, 3, 4] rfl ?_
                exact ih_24 (i + 1) _ _ _ (by omega) (by omega) hM4 hK4 hF4
              · skip
                have hj6 : j < nk := Nat.lt_of_not_le fun q => c_51 (nI_le q (by omega))
                refine z_aload_n 3 d_Mo_flood_54 rfl rfl ?_
                refine z_get zc_Mo 7 (by decide) qF_Mo_20 hM4.mo rfl d_Mo_flood_55 ?_
                refine z_iload_n 1 d_Mo_flood_58 rfl rfl ?_
                refine z_callF0 (m_AL_get hs0 hst (hM4.sA hi6) hi6 (if_pos hi6)) ym_AL_get zF_AL_get qM_Mo_51 zc_AL (hM4.sA hi6).1 d_Mo_flood_59 rfl (Nat.le_of_ble_eq_true rfl) ⟨by decide, by decide⟩ ⟨Nat.le_of_ble_eq_true rfl, Nat.le_of_ble_eq_true rfl⟩ ?_
                refine z_castS zc_MS qK_Mo_47 (hM4.se hi6).1 d_Mo_flood_64 ?_
                refine z_astore (L' := [(5, _), (4, _), (3, _), (2, _), (0, _), (1, _)]) d_Mo_flood_67 (by decide) rfl ?_
                refine z_aload_n 4 d_Mo_flood_69 rfl rfl ?_
                refine z_get zc_Mo 6 (by decide) qF_Mo_16 hM4.mo rfl d_Mo_flood_70 ?_
                refine z_iload 1 d_Mo_flood_73 rfl ?_
                refine z_callF0 (m_AL_get hs0 hst (hM4.kA hj6) hj6 (if_pos hj6)) ym_AL_get zF_AL_get qM_Mo_51 zc_AL (hM4.kA hj6).1 d_Mo_flood_75 rfl (Nat.le_of_ble_eq_true rfl) ⟨by decide, by decide⟩ ⟨Nat.le_of_ble_eq_true rfl, Nat.le_of_ble_eq_true rfl⟩ ?_
                refine z_castS zc_MK qK_Mo_57 (hM4.ke hj6) d_Mo_flood_80 ?_
                refine z_get zc_MK 0 (by decide) qF_Mo_96 (hM4.ke hj6) rfl d_Mo_flood_83 ?_
                refine z_iload_n 5 d_Mo_flood_86 rfl rfl ?_
                refine z_icmp_ne 126 d_Mo_flood_87 (by decide) (fun c_87 => ?_) (fun c_87 => ?_)
                · skip
                  refine z_iinc (v := nI (j + 1)) (L' := [(4, _), (5, _), (3, _), (2, _), (0, _), (1, _)]) 1 d_Mo_flood_126 rfl (nI_1 j) (by decide) rfl ?_
                  refine z_goto 40 d_Mo_flood_129 (by decide) ?_
                  refine z_sub (L' := [(4, _), (3, _), (2, _), (0, _), (1, _)]) [0, 2, 3, 4, 5] rfl ?_
                  first
                    | exact ih_40 (j + 1) _ _ _ (by omega) (by omega) hM6 ((hK4.tr hK5).tr hK6) ((hF4.tr hF5).tr hF6)
                    | exact ih_40 (j + 1) _ _ _ (by omega) (by omega) hM4 hK4 hF4
                · skip
                  refine z_aload 0 d_Mo_flood_90 rfl ?_
                  refine z_get zc_MS 6 (by decide) qF_Mo_46 (hM4.se hi6).1 rfl d_Mo_flood_92 ?_
                  refine z_iload 1 d_Mo_flood_95 rfl ?_
                  refine z_ialdN (hM4.se hi6).2.1 (show j < 8 by omega) (by decide) d_Mo_flood_97 ?_
                  refine z_iconst (v := (-1)) d_Mo_flood_98 (by decide) ?_
                  refine z_icmp_ne 105 d_Mo_flood_99 (by decide) (fun c_99 => ?_) (fun c_99 => ?_)
                  · skip
                    refine z_aload 0 d_Mo_flood_105 rfl ?_
                    refine z_get zc_MS 6 (by decide) qF_Mo_46 (hM4.se hi6).1 rfl d_Mo_flood_107 ?_
                    refine z_iload 1 d_Mo_flood_110 rfl ?_
                    refine z_iconst (v := (-1)) d_Mo_flood_112 (by decide) ?_
                    refine z_iastN (hM4.se hi6).2.1 (show j < 8 by omega) (by decide) d_Mo_flood_113 ?_
                    obtain ⟨V5, hM5, hK5, hF5⟩ := hM4.putsh hi6 hj6 (-1)
                    refine z_aload 0 d_Mo_flood_114 rfl ?_
                    refine z_get zc_MS 7 (by decide) qF_Mo_140 (hM5.se hi6).1 rfl d_Mo_flood_116 ?_
                    refine z_iload 1 d_Mo_flood_119 rfl ?_
                    refine z_iconst (v := (-1)) d_Mo_flood_121 (by decide) ?_
                    refine z_iastN (hM5.se hi6).2.2.1 (show j < 8 by omega) (by decide) d_Mo_flood_122 ?_
                    obtain ⟨V6, hM6, hK6, hF6⟩ := hM5.putep hi6 (upd (V5 (400 + i)) j (-1))
                    refine z_iinc (L' := [(2, _), (5, _), (4, _), (3, _), (0, _), (1, _)]) 3 d_Mo_flood_123 rfl rfl (by decide) rfl ?_
                    refine z_iinc (v := nI (j + 1)) (L' := [(4, _), (2, _), (5, _), (3, _), (0, _), (1, _)]) 2 d_Mo_flood_126 rfl (nI_1 j) (by decide) rfl ?_
                    refine z_goto 40 d_Mo_flood_129 (by decide) ?_
                    refine z_sub (L' := [(4, _), (3, _), (2, _), (0, _), (1, _)]) [0, 3, 1, 4, 5] rfl ?_
                    first
                      | exact ih_40 (j + 1) _ _ _ (by omega) (by omega) hM6 ((hK4.tr hK5).tr hK6) ((hF4.tr hF5).tr hF6)
                      | exact ih_40 (j + 1) _ _ _ (by omega) (by omega) hM4 hK4 hF4
                  · skip
                    refine z_goto 126 d_Mo_flood_102 (by decide) ?_
                    refine z_iinc (v := nI (j + 1)) (L' := [(4, _), (5, _), (3, _), (2, _), (0, _), (1, _)]) 1 d_Mo_flood_126 rfl (nI_1 j) (by decide) rfl ?_
                    refine z_goto 40 d_Mo_flood_129 (by decide) ?_
                    refine z_sub (L' := [(4, _), (3, _), (2, _), (0, _), (1, _)]) [0, 2, 3, 4, 5] rfl ?_
                    first
                      | exact ih_40 (j + 1) _ _ _ (by omega) (by omega) hM6 ((hK4.tr hK5).tr hK6) ((hF4.tr hF5).tr hF6)
                      | exact ih_40 (j + 1) _ _ _ (by omega) (by omega) hM4 hK4 hF4
          exact key_40 (nk + 1) 0 _ _ _ (by omega) (by omega) hM2 hK2 hF2
    exact key_24 (ns + 1) 0 _ _ _ (by omega) (by omega) hM1 zKm.rf hF1
  · skip
    refine z_aload_n 0 d_Mo_flood_14 rfl rfl ?_
    refine z_iconst (v := 1) d_Mo_flood_15 (by decide) ?_
    refine z_callV0 (m_Mo_no hs0 hst hM1.mo 1) ym_Mo_no qM_Mo_119 qI_Mo_no qV_Mo_Mo_no zc_Mo hM1.mo d_Mo_flood_16 rfl (Nat.le_of_ble_eq_true rfl) ⟨by decide, by decide⟩ ⟨Nat.le_of_ble_eq_true rfl, Nat.le_of_ble_eq_true rfl⟩ ?_
    obtain ⟨V9, hM9, hK9, hF9, hT9⟩ := hM1.putT 1
    exact z_iret rfl (⟨⟨_, rfl⟩, B, V9, ne, ec, hM9, hK1.tr hK9, mNw.rf, hF1.tr hF9⟩) (by first | decide | omega) (by first | decide | omega) d_Mo_flood_19
theorem d_Mo_fresh_0 : decode c_Mo_fresh 0 = .ok (.aload_n 0, 1) := by decide +kernel
theorem d_Mo_fresh_1 : decode c_Mo_fresh 1 = .ok (.iconst 0, 1) := by decide +kernel
theorem d_Mo_fresh_2 : decode c_Mo_fresh 2 = .ok (.putfield 36, 3) := by decide +kernel
theorem d_Mo_fresh_5 : decode c_Mo_fresh 5 = .ok (.aload_n 0, 1) := by decide +kernel
theorem d_Mo_fresh_6 : decode c_Mo_fresh 6 = .ok (.iload_n 1, 1) := by decide +kernel
theorem d_Mo_fresh_7 : decode c_Mo_fresh 7 = .ok (.invokevirtual 147, 3) := by decide +kernel
theorem d_Mo_fresh_10 : decode c_Mo_fresh 10 = .ok (.ifCond .ne 9, 3) := by decide +kernel
theorem d_Mo_fresh_13 : decode c_Mo_fresh 13 = .ok (.aload_n 0, 1) := by decide +kernel
theorem d_Mo_fresh_14 : decode c_Mo_fresh 14 = .ok (.iconst 1, 1) := by decide +kernel
theorem d_Mo_fresh_15 : decode c_Mo_fresh 15 = .ok (.invokevirtual 119, 3) := by decide +kernel
theorem d_Mo_fresh_18 : decode c_Mo_fresh 18 = .ok (.ireturn, 1) := by decide +kernel
theorem d_Mo_fresh_19 : decode c_Mo_fresh 19 = .ok (.aload_n 0, 1) := by decide +kernel
theorem d_Mo_fresh_20 : decode c_Mo_fresh 20 = .ok (.iload_n 2, 1) := by decide +kernel
theorem d_Mo_fresh_21 : decode c_Mo_fresh 21 = .ok (.invokevirtual 129, 3) := by decide +kernel
theorem d_Mo_fresh_24 : decode c_Mo_fresh 24 = .ok (.ifCond .ne 9, 3) := by decide +kernel
theorem d_Mo_fresh_27 : decode c_Mo_fresh 27 = .ok (.aload_n 0, 1) := by decide +kernel
theorem d_Mo_fresh_28 : decode c_Mo_fresh 28 = .ok (.iconst 2, 1) := by decide +kernel
theorem d_Mo_fresh_29 : decode c_Mo_fresh 29 = .ok (.invokevirtual 119, 3) := by decide +kernel
theorem d_Mo_fresh_32 : decode c_Mo_fresh 32 = .ok (.ireturn, 1) := by decide +kernel
theorem d_Mo_fresh_33 : decode c_Mo_fresh 33 = .ok (.aload_n 0, 1) := by decide +kernel
theorem d_Mo_fresh_34 : decode c_Mo_fresh 34 = .ok (.getfield 20, 3) := by decide +kernel
theorem d_Mo_fresh_37 : decode c_Mo_fresh 37 = .ok (.iload_n 1, 1) := by decide +kernel
theorem d_Mo_fresh_38 : decode c_Mo_fresh 38 = .ok (.invokeinterface 51 2, 5) := by decide +kernel
theorem d_Mo_fresh_43 : decode c_Mo_fresh 43 = .ok (.checkcast 47, 3) := by decide +kernel
theorem d_Mo_fresh_46 : decode c_Mo_fresh 46 = .ok (.astore_n 3, 1) := by decide +kernel
theorem d_Mo_fresh_47 : decode c_Mo_fresh 47 = .ok (.aload_n 0, 1) := by decide +kernel
theorem d_Mo_fresh_48 : decode c_Mo_fresh 48 = .ok (.aload_n 3, 1) := by decide +kernel
theorem d_Mo_fresh_49 : decode c_Mo_fresh 49 = .ok (.iload_n 2, 1) := by decide +kernel
theorem d_Mo_fresh_50 : decode c_Mo_fresh 50 = .ok (.invokevirtual 150, 3) := by decide +kernel
theorem d_Mo_fresh_53 : decode c_Mo_fresh 53 = .ok (.istore 4, 2) := by decide +kernel
theorem d_Mo_fresh_55 : decode c_Mo_fresh 55 = .ok (.iload 4, 2) := by decide +kernel
theorem d_Mo_fresh_57 : decode c_Mo_fresh 57 = .ok (.invokestatic 66, 3) := by decide +kernel
theorem d_Mo_fresh_60 : decode c_Mo_fresh 60 = .ok (.aload_n 3, 1) := by decide +kernel
theorem d_Mo_fresh_61 : decode c_Mo_fresh 61 = .ok (.getfield 69, 3) := by decide +kernel
theorem d_Mo_fresh_64 : decode c_Mo_fresh 64 = .ok (.if_icmp .ge 9, 3) := by decide +kernel
theorem d_Mo_fresh_67 : decode c_Mo_fresh 67 = .ok (.aload_n 0, 1) := by decide +kernel
theorem d_Mo_fresh_68 : decode c_Mo_fresh 68 = .ok (.iconst 3, 1) := by decide +kernel
theorem d_Mo_fresh_69 : decode c_Mo_fresh 69 = .ok (.invokevirtual 119, 3) := by decide +kernel
theorem d_Mo_fresh_72 : decode c_Mo_fresh 72 = .ok (.ireturn, 1) := by decide +kernel
theorem d_Mo_fresh_73 : decode c_Mo_fresh 73 = .ok (.aload_n 3, 1) := by decide +kernel
theorem d_Mo_fresh_74 : decode c_Mo_fresh 74 = .ok (.getfield 69, 3) := by decide +kernel
theorem d_Mo_fresh_77 : decode c_Mo_fresh 77 = .ok (.newarray .int, 2) := by decide +kernel
theorem d_Mo_fresh_79 : decode c_Mo_fresh 79 = .ok (.astore 5, 2) := by decide +kernel
theorem d_Mo_fresh_81 : decode c_Mo_fresh 81 = .ok (.iconst 1, 1) := by decide +kernel
theorem d_Mo_fresh_82 : decode c_Mo_fresh 82 = .ok (.istore 6, 2) := by decide +kernel
theorem d_Mo_fresh_84 : decode c_Mo_fresh 84 = .ok (.iload 6, 2) := by decide +kernel
theorem d_Mo_fresh_86 : decode c_Mo_fresh 86 = .ok (.aload_n 3, 1) := by decide +kernel
theorem d_Mo_fresh_87 : decode c_Mo_fresh 87 = .ok (.getfield 69, 3) := by decide +kernel
theorem d_Mo_fresh_90 : decode c_Mo_fresh 90 = .ok (.if_icmp .ge 18, 3) := by decide +kernel
theorem d_Mo_fresh_93 : decode c_Mo_fresh 93 = .ok (.aload 5, 2) := by decide +kernel
theorem d_Mo_fresh_95 : decode c_Mo_fresh 95 = .ok (.iload 6, 2) := by decide +kernel
theorem d_Mo_fresh_97 : decode c_Mo_fresh 97 = .ok (.aload_n 0, 1) := by decide +kernel
theorem d_Mo_fresh_98 : decode c_Mo_fresh 98 = .ok (.invokevirtual 133, 3) := by decide +kernel
theorem d_Mo_fresh_101 : decode c_Mo_fresh 101 = .ok (.iastore, 1) := by decide +kernel
theorem d_Mo_fresh_102 : decode c_Mo_fresh 102 = .ok (.iinc 6 1, 3) := by decide +kernel
theorem d_Mo_fresh_105 : decode c_Mo_fresh 105 = .ok (.goto (-21), 3) := by decide +kernel
theorem d_Mo_fresh_108 : decode c_Mo_fresh 108 = .ok (.aload_n 3, 1) := by decide +kernel
theorem d_Mo_fresh_109 : decode c_Mo_fresh 109 = .ok (.dup, 1) := by decide +kernel
theorem d_Mo_fresh_110 : decode c_Mo_fresh 110 = .ok (.getfield 153, 3) := by decide +kernel
theorem d_Mo_fresh_113 : decode c_Mo_fresh 113 = .ok (.iconst 1, 1) := by decide +kernel
theorem d_Mo_fresh_114 : decode c_Mo_fresh 114 = .ok (.iadd, 1) := by decide +kernel
theorem d_Mo_fresh_115 : decode c_Mo_fresh 115 = .ok (.putfield 153, 3) := by decide +kernel
theorem d_Mo_fresh_118 : decode c_Mo_fresh 118 = .ok (.iconst 0, 1) := by decide +kernel
theorem d_Mo_fresh_119 : decode c_Mo_fresh 119 = .ok (.istore 6, 2) := by decide +kernel
theorem d_Mo_fresh_121 : decode c_Mo_fresh 121 = .ok (.iload 6, 2) := by decide +kernel
theorem d_Mo_fresh_123 : decode c_Mo_fresh 123 = .ok (.bipush 8, 2) := by decide +kernel
theorem d_Mo_fresh_125 : decode c_Mo_fresh 125 = .ok (.if_icmp .ge 60, 3) := by decide +kernel
theorem d_Mo_fresh_128 : decode c_Mo_fresh 128 = .ok (.iload 4, 2) := by decide +kernel
theorem d_Mo_fresh_130 : decode c_Mo_fresh 130 = .ok (.iload 6, 2) := by decide +kernel
theorem d_Mo_fresh_132 : decode c_Mo_fresh 132 = .ok (.invokestatic 76, 3) := by decide +kernel
theorem d_Mo_fresh_135 : decode c_Mo_fresh 135 = .ok (.ifCond .ne 6, 3) := by decide +kernel
theorem d_Mo_fresh_138 : decode c_Mo_fresh 138 = .ok (.goto 41, 3) := by decide +kernel
theorem d_Mo_fresh_141 : decode c_Mo_fresh 141 = .ok (.aload_n 3, 1) := by decide +kernel
theorem d_Mo_fresh_142 : decode c_Mo_fresh 142 = .ok (.getfield 46, 3) := by decide +kernel
theorem d_Mo_fresh_145 : decode c_Mo_fresh 145 = .ok (.iload 6, 2) := by decide +kernel
theorem d_Mo_fresh_147 : decode c_Mo_fresh 147 = .ok (.aload_n 3, 1) := by decide +kernel
theorem d_Mo_fresh_148 : decode c_Mo_fresh 148 = .ok (.getfield 46, 3) := by decide +kernel
theorem d_Mo_fresh_151 : decode c_Mo_fresh 151 = .ok (.iload 6, 2) := by decide +kernel
theorem d_Mo_fresh_153 : decode c_Mo_fresh 153 = .ok (.iaload, 1) := by decide +kernel
theorem d_Mo_fresh_154 : decode c_Mo_fresh 154 = .ok (.aload 5, 2) := by decide +kernel
theorem d_Mo_fresh_156 : decode c_Mo_fresh 156 = .ok (.iload 6, 2) := by decide +kernel
theorem d_Mo_fresh_158 : decode c_Mo_fresh 158 = .ok (.iconst 1, 1) := by decide +kernel
theorem d_Mo_fresh_159 : decode c_Mo_fresh 159 = .ok (.iadd, 1) := by decide +kernel
theorem d_Mo_fresh_160 : decode c_Mo_fresh 160 = .ok (.invokestatic 136, 3) := by decide +kernel
theorem d_Mo_fresh_163 : decode c_Mo_fresh 163 = .ok (.iadd, 1) := by decide +kernel
theorem d_Mo_fresh_164 : decode c_Mo_fresh 164 = .ok (.bipush 97, 2) := by decide +kernel
theorem d_Mo_fresh_166 : decode c_Mo_fresh 166 = .ok (.irem, 1) := by decide +kernel
theorem d_Mo_fresh_167 : decode c_Mo_fresh 167 = .ok (.iastore, 1) := by decide +kernel
theorem d_Mo_fresh_168 : decode c_Mo_fresh 168 = .ok (.aload_n 3, 1) := by decide +kernel
theorem d_Mo_fresh_169 : decode c_Mo_fresh 169 = .ok (.getfield 140, 3) := by decide +kernel
theorem d_Mo_fresh_172 : decode c_Mo_fresh 172 = .ok (.iload 6, 2) := by decide +kernel
theorem d_Mo_fresh_174 : decode c_Mo_fresh 174 = .ok (.aload_n 3, 1) := by decide +kernel
theorem d_Mo_fresh_175 : decode c_Mo_fresh 175 = .ok (.getfield 153, 3) := by decide +kernel
theorem d_Mo_fresh_178 : decode c_Mo_fresh 178 = .ok (.iastore, 1) := by decide +kernel
theorem d_Mo_fresh_179 : decode c_Mo_fresh 179 = .ok (.iinc 6 1, 3) := by decide +kernel
theorem d_Mo_fresh_182 : decode c_Mo_fresh 182 = .ok (.goto (-61), 3) := by decide +kernel
theorem d_Mo_fresh_185 : decode c_Mo_fresh 185 = .ok (.aload_n 0, 1) := by decide +kernel
theorem d_Mo_fresh_186 : decode c_Mo_fresh 186 = .ok (.iconst 1, 1) := by decide +kernel
theorem d_Mo_fresh_187 : decode c_Mo_fresh 187 = .ok (.iload_n 1, 1) := by decide +kernel
theorem d_Mo_fresh_188 : decode c_Mo_fresh 188 = .ok (.invokevirtual 143, 3) := by decide +kernel
theorem d_Mo_fresh_191 : decode c_Mo_fresh 191 = .ok (.aload_n 3, 1) := by decide +kernel
theorem d_Mo_fresh_192 : decode c_Mo_fresh 192 = .ok (.invokevirtual 156, 3) := by decide +kernel
theorem d_Mo_fresh_195 : decode c_Mo_fresh 195 = .ok (.invokestatic 66, 3) := by decide +kernel
theorem d_Mo_fresh_198 : decode c_Mo_fresh 198 = .ok (.ireturn, 1) := by decide +kernel
set_option maxHeartbeats 4000000 in
set_option maxRecDepth 100000 in
theorem m_Mo_fresh {g0 : State} {d : zD} {l : Launch} {a0 : Array Value} (hs0 : zS0 d a0 g0) (hst : l.stackTraces = false) {G : zG} {B : Nat → Nat} {V : Nat → Nat → Int32} {nk ns ne ec : Nat} (hM : zM d B V nk ns ne ec G) (x set : Int32) : zMet g0 d l y_Mo_fresh c_Mo_fresh 7 ((Option.some Jvm.ClassFile.FieldType.int)) 11 3 88 [.ref (B 0), .int x, .int set] (G) (mTq d B nk ns ne V G zrI) (zNo) := by
  have hnk : nk ≤ 8 := hM.2.1
  have hns : ns ≤ 6 := hM.2.2.1
  have hne : ne ≤ 64 := hM.2.2.2.1
  have hp2 : 2 ^ nk ≤ 256 := Nat.pow_le_pow_right (n := 2) (by decide) hnk
  refine z_entry hs0 hst (by decide) (Nat.le_of_ble_eq_true rfl) (fun p e s m args below meth c => ?_)
  refine z_aload_n 0 d_Mo_fresh_0 rfl rfl ?_
  refine z_iconst (v := 0) d_Mo_fresh_1 (by decide) ?_
  refine z_put zc_Mo 0 (by decide) qF_Mo_36 hM.mo rfl rfl rfl (Nat.le_of_ble_eq_true rfl) d_Mo_fresh_2 ?_
  obtain ⟨V1, hM1, hK1, hF1, hT1⟩ := hM.putT 0
  refine z_aload_n 0 d_Mo_fresh_5 rfl rfl ?_
  refine z_iload_n 1 d_Mo_fresh_6 rfl rfl ?_
  refine z_callV0 (m_Mo_isSecret hs0 hst hM1 x) ym_Mo_isSecret qM_Mo_147 qI_Mo_isSecret qV_Mo_Mo_isSecret zc_Mo hM1.mo d_Mo_fresh_7 rfl (Nat.le_of_ble_eq_true rfl) ⟨by decide, by decide⟩ ⟨Nat.le_of_ble_eq_true rfl, Nat.le_of_ble_eq_true rfl⟩ ?_
  refine z_if_ne 19 d_Mo_fresh_10 (by decide) (fun c_10 => ?_) (fun c_10 => ?_)
  · skip
    obtain ⟨si, hsi, rfl⟩ := zin_n ((zb_n0 _).mp c_10) (by omega)
    refine z_aload_n 0 d_Mo_fresh_19 rfl rfl ?_
    refine z_iload_n 2 d_Mo_fresh_20 rfl rfl ?_
    refine z_callV0 (m_Mo_isSet hs0 hst hM1 set) ym_Mo_isSet qM_Mo_129 qI_Mo_isSet qV_Mo_Mo_isSet zc_Mo hM1.mo d_Mo_fresh_21 rfl (Nat.le_of_ble_eq_true rfl) ⟨by decide, by decide⟩ ⟨Nat.le_of_ble_eq_true rfl, Nat.le_of_ble_eq_true rfl⟩ ?_
    refine z_if_ne 33 d_Mo_fresh_24 (by decide) (fun c_24 => ?_) (fun c_24 => ?_)
    · skip
      obtain ⟨g, hg, rfl⟩ := zsetok_le hnk ((zb_n0 _).mp c_24)
      refine z_aload_n 0 d_Mo_fresh_33 rfl rfl ?_
      refine z_get zc_Mo 7 (by decide) qF_Mo_20 hM1.mo rfl d_Mo_fresh_34 ?_
      refine z_iload_n 1 d_Mo_fresh_37 rfl rfl ?_
      refine z_callF0 (m_AL_get hs0 hst (hM1.sA hsi) hsi (if_pos hsi)) ym_AL_get zF_AL_get qM_Mo_51 zc_AL (hM1.sA hsi).1 d_Mo_fresh_38 rfl (Nat.le_of_ble_eq_true rfl) ⟨by decide, by decide⟩ ⟨Nat.le_of_ble_eq_true rfl, Nat.le_of_ble_eq_true rfl⟩ ?_
      refine z_castS zc_MS qK_Mo_47 (hM1.se hsi).1 d_Mo_fresh_43 ?_
      refine z_astore_n (L' := [(3, _), (0, _), (1, _), (2, _)]) d_Mo_fresh_46 rfl (by decide) rfl ?_
      refine z_aload_n 1 d_Mo_fresh_47 rfl rfl ?_
      refine z_aload_n 0 d_Mo_fresh_48 rfl rfl ?_
      refine z_iload_n 3 d_Mo_fresh_49 rfl rfl ?_
      refine z_callVp0 ((m_Mo_groupQ hs0 hst hM1 hsi hg)) ym_Mo_group qM_Mo_150 qI_Mo_group qV_Mo_Mo_group zc_Mo hM1.mo d_Mo_fresh_50 rfl (Nat.le_of_ble_eq_true rfl) ⟨by decide, by decide⟩ ⟨Nat.le_of_ble_eq_true rfl, Nat.le_of_ble_eq_true rfl⟩ (fun r_50 G_50 hp_50 => ?_)
      obtain ⟨⟨q9, hq9, rfl⟩, rfl⟩ := hp_50
      refine z_istore (L' := [(4, _), (3, _), (0, _), (1, _), (2, _)]) d_Mo_fresh_53 (by decide) rfl ?_
      refine z_iload 0 d_Mo_fresh_55 rfl ?_
      refine z_callS0 ((m_Mo_size hs0 hst (nn := q9) (by omega))) ym_Mo_size qM_Mo_66 qS_Mo_size d_Mo_fresh_57 rfl (Nat.le_of_ble_eq_true rfl) ⟨by decide, by decide⟩ ⟨Nat.le_of_ble_eq_true rfl, Nat.le_of_ble_eq_true rfl⟩ ?_
      refine z_aload_n 1 d_Mo_fresh_60 rfl rfl ?_
      refine z_get zc_MS 0 (by decide) qF_Mo_69 (hM1.se hsi).1 rfl d_Mo_fresh_61 ?_
      refine z_icmp_ge 73 d_Mo_fresh_64 (by decide) (fun c_64 => ?_) (fun c_64 => ?_)
      · skip
        obtain ⟨t, ht1, ht4, ht⟩ := hM1.tn hsi
        refine z_aload_n 1 d_Mo_fresh_73 rfl rfl ?_
        refine z_get zc_MS 0 (by decide) qF_Mo_69 (hM1.se hsi).1 rfl d_Mo_fresh_74 ?_
        rw [ht]
        refine z_newaI t qA_int (nI_pos (by omega)) (nI_clamp (by omega)) (by show t * 4 ≤ _; omega) ⟨by decide, by show 0 + t ≤ 88; omega⟩ d_Mo_fresh_77 (fun ac hac hacb => ?_)
        refine z_widen (k := 1) (n := 4) (by omega) (by omega) ?_
        have ho : ∀ r, mlive nk ns ne r → B r ≠ ac := hM1.nn_ hac
        have hac0 : G ac = none := by
          cases e : G ac with
          | none => rfl
          | some v => exact absurd hac (by rw [hF1 _ _ e (fun r hr => (ho r hr).symm)]; exact fun q => nomatch q)
        refine z_astore (L' := [(5, _), (4, _), (3, _), (0, _), (1, _), (2, _)]) d_Mo_fresh_79 (by decide) rfl ?_
        refine z_iconst (v := (nI 1)) d_Mo_fresh_81 (by decide) ?_
        refine z_istore (L' := [(6, _), (5, _), (4, _), (3, _), (0, _), (1, _), (2, _)]) d_Mo_fresh_82 (by decide) rfl ?_
        have key_84 : ∀ (n : Nat) (i : Nat) (G2 : zG) (V2 : Nat → Nat → Int32) (fc : Nat → Int32), t - i < n → (i ≤ t) → (zM d B V2 nk ns ne ec G2) → (zKm V1 V2) → (mFr B nk ns ne G G2) → (G2 ac = some (zI d t fc)) → Z g0 d y_Mo_fresh c_Mo_fresh 7 ((Option.some Jvm.ClassFile.FieldType.int)) [] p l e (zR 11 3 88) s m args below meth c (vx_MQ below (zQc g0 d (mTq d B nk ns ne V G zrI)) (zXc g0 d (zNo)) args s 3 88 (zA g0)) 1 4 (G2) [(6, .int (nI i)), (5, .ref ac), (4, .int (nI q9)), (3, .ref (B (200 + si))), (0, .ref (B 0)), (1, .int (nI si)), (2, .int (nI g))] [] 84 := by
          intro n
          induction n with
          | zero => intro i G2 V2 fc h0; exact absurd h0 (Nat.not_lt_zero _)
          | succ n ih_84 =>
            intro i G2 V2 fc hm_84 hi hM2 hK2 hF2 hA2
            refine z_iload 0 d_Mo_fresh_84 rfl ?_
            refine z_aload_n 3 d_Mo_fresh_86 rfl rfl ?_
            have ht2 : V2 (200 + si) 0 = nI t := (hK2 (200 + si) 0 (by unfold zmo_; omega)).trans ht
            refine z_get zc_MS 0 (by decide) qF_Mo_69 (hM2.se hsi).1 rfl d_Mo_fresh_87 ?_
            rw [ht2]
            refine z_icmp_ge 108 d_Mo_fresh_90 (by decide) (fun c_90 => ?_) (fun c_90 => ?_)
            · skip
              refine z_aload_n 3 d_Mo_fresh_108 rfl rfl ?_
              refine z_dup d_Mo_fresh_109 rfl ?_
              refine z_get zc_MS 3 (by decide) qF_Mo_153 (hM2.se hsi).1 rfl d_Mo_fresh_110 ?_
              refine z_iconst (v := 1) d_Mo_fresh_113 (by decide) ?_
              refine z_iadd d_Mo_fresh_114 ?_
              refine z_put zc_MS 3 (by decide) qF_Mo_153 (hM2.se hsi).1 rfl rfl rfl (Nat.le_of_ble_eq_true rfl) d_Mo_fresh_115 ?_
              obtain ⟨b, eb⟩ := hM2.ta hsi
              obtain ⟨V4, hM4, hK4, hF4⟩ := hM2.putsk hsi (V2 (200 + si) 3 + 1) b
              rw [← eb] at hM4 hF4
              have hA4 := (zu_n (v := zms B V2 si (V2 (200 + si) 3 + 1) (V2 (200 + si) 4) (V2 (200 + si) 5)) (ho _ (ml_i hsi)).symm).trans hA2
              replace hK4 := hK2.tr hK4
              replace hF4 := hF2.tr hF4
              refine z_iconst (v := (nI 0)) d_Mo_fresh_118 (by decide) ?_
              refine z_istore (L' := [(6, _), (5, _), (4, _), (3, _), (0, _), (1, _), (2, _)]) d_Mo_fresh_119 (by decide) rfl ?_
              have key_121 : ∀ (n : Nat) (i : Nat) (G2 : zG) (V2 : Nat → Nat → Int32), 8 - i < n → (i ≤ 8) → (zM d B V2 nk ns ne ec G2) → (zKm V1 V2) → (mFr B nk ns ne G G2) → (G2 ac = some (zI d t fc)) → Z g0 d y_Mo_fresh c_Mo_fresh 7 ((Option.some Jvm.ClassFile.FieldType.int)) [] p l e (zR 11 3 88) s m args below meth c (vx_MQ below (zQc g0 d (mTq d B nk ns ne V G zrI)) (zXc g0 d (zNo)) args s 3 88 (zA g0)) 1 4 (G2) [(6, .int (nI i)), (5, .ref ac), (4, .int (nI q9)), (3, .ref (B (200 + si))), (0, .ref (B 0)), (1, .int (nI si)), (2, .int (nI g))] [] 121 := by
                intro n
                induction n with
                | zero => intro i G2 V2 h0; exact absurd h0 (Nat.not_lt_zero _)
                | succ n ih_121 =>
                  intro i G2 V2 hm_121 hi hM2 hK2 hF2 hA2
                  refine z_iload 0 d_Mo_fresh_121 rfl ?_
                  refine z_bipush (v := 8) d_Mo_fresh_123 (by decide) ?_
                  refine z_icmp_ge 185 d_Mo_fresh_125 (by decide) (fun c_125 => ?_) (fun c_125 => ?_)
                  · skip
                    refine z_aload_n 4 d_Mo_fresh_185 rfl rfl ?_
                    refine z_iconst (v := 1) d_Mo_fresh_186 (by decide) ?_
                    refine z_iload_n 5 d_Mo_fresh_187 rfl rfl ?_
                    refine z_callVp1 (m_Mo_write hs0 hst hM2 _ _) ym_Mo_write qM_Mo_143 qI_Mo_write qV_Mo_Mo_write zc_Mo hM2.mo d_Mo_fresh_188 rfl (Nat.le_of_ble_eq_true rfl) ⟨by decide, by decide⟩ ⟨Nat.le_of_ble_eq_true rfl, Nat.le_of_ble_eq_true rfl⟩ (fun r_188 G_188 hp_188 => ?_)
                    obtain ⟨hr_188, B7, V7, ne7, ec7, hM7, hK7, hN7, hF7, hB7⟩ := hp_188
                    obtain rfl : r_188 = none := hr_188
                    have hS4 := hM7.se hsi
                    rw [hB7 (200 + si) (by omega) (by omega)] at hS4
                    refine z_aload_n 3 d_Mo_fresh_191 rfl rfl ?_
                    refine z_callV1 (m_MS_stale hs0 hst hS4) ym_MS_stale qM_Mo_156 qI_MS_stale qV_MS_MS_stale zc_MS hS4.1 d_Mo_fresh_192 rfl (Nat.le_of_ble_eq_true rfl) ⟨by decide, by decide⟩ ⟨Nat.le_of_ble_eq_true rfl, Nat.le_of_ble_eq_true rfl⟩ ?_
                    refine z_callSp1 ((m_Mo_sizeA hs0 hst _)) ym_Mo_size qM_Mo_66 qS_Mo_size d_Mo_fresh_195 rfl (Nat.le_of_ble_eq_true rfl) ⟨by decide, by decide⟩ ⟨Nat.le_of_ble_eq_true rfl, Nat.le_of_ble_eq_true rfl⟩ (fun r_195 G_195 hp_195 => ?_)
                    obtain ⟨⟨v_195, rfl⟩, rfl⟩ := hp_195
                    exact z_iret rfl (⟨⟨_, rfl⟩, B7, V7, ne7, ec7, hM7, (hK1.tr hK2.n).tr hK7.n, mNw.rf.tr hN7 (hF2) hM.ne0, (hF2).tr hF7⟩) (by first | decide | omega) (by first | decide | omega) d_Mo_fresh_198
                  · skip
                    have hi6 : i < 8 := Nat.lt_of_not_le fun q => c_125 (nI_le (a := 8) (b := i) q (by omega))
                    refine z_iload 2 d_Mo_fresh_128 rfl ?_
                    refine z_iload 0 d_Mo_fresh_130 rfl ?_
                    refine z_callS0 (m_Mo_has hs0 hst (nI q9) (nI i)) ym_Mo_has qM_Mo_76 qS_Mo_has d_Mo_fresh_132 rfl (Nat.le_of_ble_eq_true rfl) ⟨by decide, by decide⟩ ⟨Nat.le_of_ble_eq_true rfl, Nat.le_of_ble_eq_true rfl⟩ ?_
                    refine z_if_ne 141 d_Mo_fresh_135 (by decide) (fun c_135 => ?_) (fun c_135 => ?_)
                    · skip
                      have hk6 : i < nk := zbt_lt hq9 (by omega) hi6 c_135
                      refine z_aload_n 3 d_Mo_fresh_141 rfl rfl ?_
                      refine z_get zc_MS 6 (by decide) qF_Mo_46 (hM2.se hsi).1 rfl d_Mo_fresh_142 ?_
                      refine z_iload 0 d_Mo_fresh_145 rfl ?_
                      refine z_aload_n 3 d_Mo_fresh_147 rfl rfl ?_
                      refine z_get zc_MS 6 (by decide) qF_Mo_46 (hM2.se hsi).1 rfl d_Mo_fresh_148 ?_
                      refine z_iload 0 d_Mo_fresh_151 rfl ?_
                      refine z_ialdN (hM2.se hsi).2.1 (hi6) (by decide) d_Mo_fresh_153 ?_
                      refine z_aload 1 d_Mo_fresh_154 rfl ?_
                      refine z_iload 0 d_Mo_fresh_156 rfl ?_
                      refine z_iconst (v := 1) d_Mo_fresh_158 (by decide) ?_
                      refine z_iadd d_Mo_fresh_159 ?_
                      refine z_callSp1 (m_Mo_at hs0 hst hA2 (by omega) (nI i + 1)) ym_Mo_at qM_Mo_136 qS_Mo_at d_Mo_fresh_160 rfl (Nat.le_of_ble_eq_true rfl) ⟨by decide, by decide⟩ ⟨Nat.le_of_ble_eq_true rfl, Nat.le_of_ble_eq_true rfl⟩ (fun r_160 G_160 hp_160 => ?_)
                      obtain ⟨⟨v_160, rfl⟩, rfl⟩ := hp_160
                      refine z_iadd d_Mo_fresh_163 ?_
                      refine z_bipush (v := 97) d_Mo_fresh_164 (by decide) ?_
                      refine z_irem d_Mo_fresh_166 (by decide) ?_
                      refine z_iastN (hM2.se hsi).2.1 (hi6) (by decide) d_Mo_fresh_167 ?_
                      obtain ⟨V5, hM5, hK5, hF5⟩ := hM2.putsh hsi hk6 (zr97 (V2 (300 + si) i + v_160))
                      have hA5 := (zu_n (v := zI d 8 (upd (V2 (300 + si)) i (zr97 (V2 (300 + si) i + v_160)))) (ho _ (ml_sh hsi)).symm).trans hA2
                      refine z_aload_n 3 d_Mo_fresh_168 rfl rfl ?_
                      refine z_get zc_MS 7 (by decide) qF_Mo_140 (hM5.se hsi).1 rfl d_Mo_fresh_169 ?_
                      refine z_iload 0 d_Mo_fresh_172 rfl ?_
                      refine z_aload_n 3 d_Mo_fresh_174 rfl rfl ?_
                      refine z_get zc_MS 3 (by decide) qF_Mo_153 (hM5.se hsi).1 rfl d_Mo_fresh_175 ?_
                      refine z_iastN (hM5.se hsi).2.2.1 (hi6) (by decide) d_Mo_fresh_178 ?_
                      obtain ⟨V6, hM6, hK6, hF6⟩ := hM5.putep hsi (upd (V5 (400 + si)) i (V5 (200 + si) 3))
                      have hA6 := (zu_n (v := zI d 8 (upd (V5 (400 + si)) i (V5 (200 + si) 3))) (ho _ (ml_ep hsi)).symm).trans hA5
                      refine z_iinc (v := nI (i + 1)) (L' := [(6, _), (5, _), (4, _), (3, _), (0, _), (1, _), (2, _)]) 0 d_Mo_fresh_179 rfl (nI_1 i) (by decide) rfl ?_
                      refine z_goto 121 d_Mo_fresh_182 (by decide) ?_
                      first
                        | exact ih_121 (i + 1) _ _ (by omega) (by omega) hM6 ((hK2.tr hK5).tr hK6) ((hF2.tr hF5).tr hF6) hA6
                        | exact ih_121 (i + 1) _ _ (by omega) (by omega) hM2 hK2 hF2 hA2
                    · skip
                      refine z_goto 179 d_Mo_fresh_138 (by decide) ?_
                      refine z_iinc (v := nI (i + 1)) (L' := [(6, _), (5, _), (4, _), (3, _), (0, _), (1, _), (2, _)]) 0 d_Mo_fresh_179 rfl (nI_1 i) (by decide) rfl ?_
                      refine z_goto 121 d_Mo_fresh_182 (by decide) ?_
                      first
                        | exact ih_121 (i + 1) _ _ (by omega) (by omega) hM6 ((hK2.tr hK5).tr hK6) ((hF2.tr hF5).tr hF6) hA6
                        | exact ih_121 (i + 1) _ _ (by omega) (by omega) hM2 hK2 hF2 hA2
              exact key_121 9 0 _ _ (by omega) (by omega) hM4 hK4 hF4 hA4
            · skip
              have hi6 : i < t := Nat.lt_of_not_le fun q => c_90 (nI_le q (by omega))
              refine z_aload 1 d_Mo_fresh_93 rfl ?_
              refine z_iload 0 d_Mo_fresh_95 rfl ?_
              refine z_aload_n 4 d_Mo_fresh_97 rfl rfl ?_
              refine z_callVp1 (m_Mo_draw hs0 hst hM2) ym_Mo_draw qM_Mo_133 qI_Mo_draw qV_Mo_Mo_draw zc_Mo hM2.mo d_Mo_fresh_98 rfl (Nat.le_of_ble_eq_true rfl) ⟨by decide, by decide⟩ ⟨Nat.le_of_ble_eq_true rfl, Nat.le_of_ble_eq_true rfl⟩ (fun r_98 G_98 hp_98 => ?_)
              obtain ⟨⟨v_98, rfl⟩, V3, hM3, hK3, hF3⟩ := hp_98
              have hA3 := hF3 _ _ hA2 (fun r hr => (ho r hr).symm)
              refine z_iastN hA3 (show i < t by omega) (by omega) d_Mo_fresh_101 ?_
              refine z_iinc (v := nI (i + 1)) (L' := [(6, _), (5, _), (4, _), (3, _), (0, _), (1, _), (2, _)]) 0 d_Mo_fresh_102 rfl (nI_1 i) (by decide) rfl ?_
              refine z_goto 84 d_Mo_fresh_105 (by decide) ?_
              exact ih_84 (i + 1) _ _ _ (by omega) (by omega) (hM3.out ho) (hK2.tr hK3) ((hF2.tr hF3).nw hac0) zu_s
        exact key_84 (t + 1) 1 _ _ _ (by omega) ht1 (hM1.out ho) zKm.rf (hF1.nw hac0) zu_s
      · skip
        refine z_aload_n 2 d_Mo_fresh_67 rfl rfl ?_
        refine z_iconst (v := 3) d_Mo_fresh_68 (by decide) ?_
        refine z_callV0 (m_Mo_no hs0 hst hM1.mo 3) ym_Mo_no qM_Mo_119 qI_Mo_no qV_Mo_Mo_no zc_Mo hM1.mo d_Mo_fresh_69 rfl (Nat.le_of_ble_eq_true rfl) ⟨by decide, by decide⟩ ⟨Nat.le_of_ble_eq_true rfl, Nat.le_of_ble_eq_true rfl⟩ ?_
        obtain ⟨V9, hM9, hK9, hF9, hT9⟩ := hM1.putT 3
        exact z_iret rfl (⟨⟨_, rfl⟩, B, V9, ne, ec, hM9, hK1.tr hK9, mNw.rf, hF1.tr hF9⟩) (by first | decide | omega) (by first | decide | omega) d_Mo_fresh_72
    · skip
      refine z_aload_n 0 d_Mo_fresh_27 rfl rfl ?_
      refine z_iconst (v := 2) d_Mo_fresh_28 (by decide) ?_
      refine z_callV0 (m_Mo_no hs0 hst hM1.mo 2) ym_Mo_no qM_Mo_119 qI_Mo_no qV_Mo_Mo_no zc_Mo hM1.mo d_Mo_fresh_29 rfl (Nat.le_of_ble_eq_true rfl) ⟨by decide, by decide⟩ ⟨Nat.le_of_ble_eq_true rfl, Nat.le_of_ble_eq_true rfl⟩ ?_
      obtain ⟨V9, hM9, hK9, hF9, hT9⟩ := hM1.putT 2
      exact z_iret rfl (⟨⟨_, rfl⟩, B, V9, ne, ec, hM9, hK1.tr hK9, mNw.rf, hF1.tr hF9⟩) (by first | decide | omega) (by first | decide | omega) d_Mo_fresh_32
  · skip
    refine z_aload_n 0 d_Mo_fresh_13 rfl rfl ?_
    refine z_iconst (v := 1) d_Mo_fresh_14 (by decide) ?_
    refine z_callV0 (m_Mo_no hs0 hst hM1.mo 1) ym_Mo_no qM_Mo_119 qI_Mo_no qV_Mo_Mo_no zc_Mo hM1.mo d_Mo_fresh_15 rfl (Nat.le_of_ble_eq_true rfl) ⟨by decide, by decide⟩ ⟨Nat.le_of_ble_eq_true rfl, Nat.le_of_ble_eq_true rfl⟩ ?_
    obtain ⟨V9, hM9, hK9, hF9, hT9⟩ := hM1.putT 1
    exact z_iret rfl (⟨⟨_, rfl⟩, B, V9, ne, ec, hM9, hK1.tr hK9, mNw.rf, hF1.tr hF9⟩) (by first | decide | omega) (by first | decide | omega) d_Mo_fresh_18
