theorem dM_client_0 : decode cM_client 0 = .ok (.aload_n 0, 1) := by decide +kernel
theorem dM_client_1 : decode cM_client 1 = .ok (.iconst 0, 1) := by decide +kernel
theorem dM_client_2 : decode cM_client 2 = .ok (.putfield 68, 3) := by decide +kernel
theorem dM_client_5 : decode cM_client 5 = .ok (.iload_n 1, 1) := by decide +kernel
theorem dM_client_6 : decode cM_client 6 = .ok (.invokestatic 115, 3) := by decide +kernel
theorem dM_client_9 : decode cM_client 9 = .ok (.ifCond .eq 13, 3) := by decide +kernel
theorem dM_client_12 : decode cM_client 12 = .ok (.iload_n 2, 1) := by decide +kernel
theorem dM_client_13 : decode cM_client 13 = .ok (.iconst 0, 1) := by decide +kernel
theorem dM_client_14 : decode cM_client 14 = .ok (.bipush 8, 2) := by decide +kernel
theorem dM_client_16 : decode cM_client 16 = .ok (.invokestatic 72, 3) := by decide +kernel
theorem dM_client_19 : decode cM_client 19 = .ok (.ifCond .ne 9, 3) := by decide +kernel
theorem dM_client_22 : decode cM_client 22 = .ok (.aload_n 0, 1) := by decide +kernel
theorem dM_client_23 : decode cM_client 23 = .ok (.iconst 1, 1) := by decide +kernel
theorem dM_client_24 : decode cM_client 24 = .ok (.invokevirtual 76, 3) := by decide +kernel
theorem dM_client_27 : decode cM_client 27 = .ok (.ireturn, 1) := by decide +kernel
theorem dM_client_28 : decode cM_client 28 = .ok (.iload_n 2, 1) := by decide +kernel
theorem dM_client_29 : decode cM_client 29 = .ok (.iconst 3, 1) := by decide +kernel
theorem dM_client_30 : decode cM_client 30 = .ok (.if_icmp .ge 45, 3) := by decide +kernel
theorem dM_client_33 : decode cM_client 33 = .ok (.iload_n 2, 1) := by decide +kernel
theorem dM_client_34 : decode cM_client 34 = .ok (.ifCond .ne 20, 3) := by decide +kernel
theorem dM_client_37 : decode cM_client 37 = .ok (.aload_n 0, 1) := by decide +kernel
theorem dM_client_38 : decode cM_client 38 = .ok (.getfield 13, 3) := by decide +kernel
theorem dM_client_41 : decode cM_client 41 = .ok (.iload_n 1, 1) := by decide +kernel
theorem dM_client_42 : decode cM_client 42 = .ok (.baload, 1) := by decide +kernel
theorem dM_client_43 : decode cM_client 43 = .ok (.ifCond .eq 7, 3) := by decide +kernel
theorem dM_client_46 : decode cM_client 46 = .ok (.iconst 1, 1) := by decide +kernel
theorem dM_client_47 : decode cM_client 47 = .ok (.goto 27, 3) := by decide +kernel
theorem dM_client_50 : decode cM_client 50 = .ok (.iconst 0, 1) := by decide +kernel
theorem dM_client_51 : decode cM_client 51 = .ok (.goto 23, 3) := by decide +kernel
theorem dM_client_54 : decode cM_client 54 = .ok (.iload_n 2, 1) := by decide +kernel
theorem dM_client_55 : decode cM_client 55 = .ok (.iconst 1, 1) := by decide +kernel
theorem dM_client_56 : decode cM_client 56 = .ok (.if_icmp .ne 12, 3) := by decide +kernel
theorem dM_client_59 : decode cM_client 59 = .ok (.aload_n 0, 1) := by decide +kernel
theorem dM_client_60 : decode cM_client 60 = .ok (.getfield 17, 3) := by decide +kernel
theorem dM_client_63 : decode cM_client 63 = .ok (.iload_n 1, 1) := by decide +kernel
theorem dM_client_64 : decode cM_client 64 = .ok (.iaload, 1) := by decide +kernel
theorem dM_client_65 : decode cM_client 65 = .ok (.goto 9, 3) := by decide +kernel
theorem dM_client_68 : decode cM_client 68 = .ok (.aload_n 0, 1) := by decide +kernel
theorem dM_client_69 : decode cM_client 69 = .ok (.getfield 20, 3) := by decide +kernel
theorem dM_client_72 : decode cM_client 72 = .ok (.iload_n 1, 1) := by decide +kernel
theorem dM_client_73 : decode cM_client 73 = .ok (.iaload, 1) := by decide +kernel
theorem dM_client_74 : decode cM_client 74 = .ok (.ireturn, 1) := by decide +kernel
theorem dM_client_75 : decode cM_client 75 = .ok (.iload_n 2, 1) := by decide +kernel
theorem dM_client_76 : decode cM_client 76 = .ok (.bipush 6, 2) := by decide +kernel
theorem dM_client_78 : decode cM_client 78 = .ok (.if_icmp .ge 38, 3) := by decide +kernel
theorem dM_client_81 : decode cM_client 81 = .ok (.iload_n 2, 1) := by decide +kernel
theorem dM_client_82 : decode cM_client 82 = .ok (.iconst 3, 1) := by decide +kernel
theorem dM_client_83 : decode cM_client 83 = .ok (.if_icmp .ne 12, 3) := by decide +kernel
theorem dM_client_86 : decode cM_client 86 = .ok (.aload_n 0, 1) := by decide +kernel
theorem dM_client_87 : decode cM_client 87 = .ok (.getfield 23, 3) := by decide +kernel
theorem dM_client_90 : decode cM_client 90 = .ok (.iload_n 1, 1) := by decide +kernel
theorem dM_client_91 : decode cM_client 91 = .ok (.iaload, 1) := by decide +kernel
theorem dM_client_92 : decode cM_client 92 = .ok (.goto 23, 3) := by decide +kernel
theorem dM_client_95 : decode cM_client 95 = .ok (.iload_n 2, 1) := by decide +kernel
theorem dM_client_96 : decode cM_client 96 = .ok (.iconst 4, 1) := by decide +kernel
theorem dM_client_97 : decode cM_client 97 = .ok (.if_icmp .ne 12, 3) := by decide +kernel
theorem dM_client_100 : decode cM_client 100 = .ok (.aload_n 0, 1) := by decide +kernel
theorem dM_client_101 : decode cM_client 101 = .ok (.getfield 26, 3) := by decide +kernel
theorem dM_client_104 : decode cM_client 104 = .ok (.iload_n 1, 1) := by decide +kernel
theorem dM_client_105 : decode cM_client 105 = .ok (.iaload, 1) := by decide +kernel
theorem dM_client_106 : decode cM_client 106 = .ok (.goto 9, 3) := by decide +kernel
theorem dM_client_109 : decode cM_client 109 = .ok (.aload_n 0, 1) := by decide +kernel
theorem dM_client_110 : decode cM_client 110 = .ok (.getfield 29, 3) := by decide +kernel
theorem dM_client_113 : decode cM_client 113 = .ok (.iload_n 1, 1) := by decide +kernel
theorem dM_client_114 : decode cM_client 114 = .ok (.iaload, 1) := by decide +kernel
theorem dM_client_115 : decode cM_client 115 = .ok (.ireturn, 1) := by decide +kernel
theorem dM_client_116 : decode cM_client 116 = .ok (.iload_n 2, 1) := by decide +kernel
theorem dM_client_117 : decode cM_client 117 = .ok (.bipush 6, 2) := by decide +kernel
theorem dM_client_119 : decode cM_client 119 = .ok (.if_icmp .ne 23, 3) := by decide +kernel
theorem dM_client_122 : decode cM_client 122 = .ok (.aload_n 0, 1) := by decide +kernel
theorem dM_client_123 : decode cM_client 123 = .ok (.getfield 44, 3) := by decide +kernel
theorem dM_client_126 : decode cM_client 126 = .ok (.iload_n 1, 1) := by decide +kernel
theorem dM_client_127 : decode cM_client 127 = .ok (.iaload, 1) := by decide +kernel
theorem dM_client_128 : decode cM_client 128 = .ok (.ifCond .le 12, 3) := by decide +kernel
theorem dM_client_131 : decode cM_client 131 = .ok (.aload_n 0, 1) := by decide +kernel
theorem dM_client_132 : decode cM_client 132 = .ok (.getfield 41, 3) := by decide +kernel
theorem dM_client_135 : decode cM_client 135 = .ok (.iload_n 1, 1) := by decide +kernel
theorem dM_client_136 : decode cM_client 136 = .ok (.iaload, 1) := by decide +kernel
theorem dM_client_137 : decode cM_client 137 = .ok (.goto 4, 3) := by decide +kernel
theorem dM_client_140 : decode cM_client 140 = .ok (.iconst (-1), 1) := by decide +kernel
theorem dM_client_141 : decode cM_client 141 = .ok (.ireturn, 1) := by decide +kernel
theorem dM_client_142 : decode cM_client 142 = .ok (.iload_n 2, 1) := by decide +kernel
theorem dM_client_143 : decode cM_client 143 = .ok (.bipush 7, 2) := by decide +kernel
theorem dM_client_145 : decode cM_client 145 = .ok (.if_icmp .ne 20, 3) := by decide +kernel
theorem dM_client_148 : decode cM_client 148 = .ok (.aload_n 0, 1) := by decide +kernel
theorem dM_client_149 : decode cM_client 149 = .ok (.getfield 47, 3) := by decide +kernel
theorem dM_client_152 : decode cM_client 152 = .ok (.iload_n 1, 1) := by decide +kernel
theorem dM_client_153 : decode cM_client 153 = .ok (.baload, 1) := by decide +kernel
theorem dM_client_154 : decode cM_client 154 = .ok (.ifCond .eq 7, 3) := by decide +kernel
theorem dM_client_157 : decode cM_client 157 = .ok (.iconst 1, 1) := by decide +kernel
theorem dM_client_158 : decode cM_client 158 = .ok (.goto 21, 3) := by decide +kernel
theorem dM_client_161 : decode cM_client 161 = .ok (.iconst 0, 1) := by decide +kernel
theorem dM_client_162 : decode cM_client 162 = .ok (.goto 17, 3) := by decide +kernel
theorem dM_client_165 : decode cM_client 165 = .ok (.aload_n 0, 1) := by decide +kernel
theorem dM_client_166 : decode cM_client 166 = .ok (.getfield 32, 3) := by decide +kernel
theorem dM_client_169 : decode cM_client 169 = .ok (.iload_n 1, 1) := by decide +kernel
theorem dM_client_170 : decode cM_client 170 = .ok (.baload, 1) := by decide +kernel
theorem dM_client_171 : decode cM_client 171 = .ok (.ifCond .eq 7, 3) := by decide +kernel
theorem dM_client_174 : decode cM_client 174 = .ok (.iconst 1, 1) := by decide +kernel
theorem dM_client_175 : decode cM_client 175 = .ok (.goto 4, 3) := by decide +kernel
theorem dM_client_178 : decode cM_client 178 = .ok (.iconst 0, 1) := by decide +kernel
theorem dM_client_179 : decode cM_client 179 = .ok (.ireturn, 1) := by decide +kernel
def wp_m_client (post : Int32 → Sm → Prop) (σ : Sm) (a0 : Int32) (a1 : Int32) : Prop := wp_m_isClient (fun r2 s1 => (((r2 = 0) → wp_m_fail (fun r5 s4 => post r5 s4) s1 1) ∧ (¬ (r2 = 0) → wp_m_within (fun r7 s6 => ((¬ (r7 = 0) → (((3 ≤ a1) → (((6 ≤ a1) → ((¬ (a1 = 6) → ((¬ (a1 = 7) → (vp_in a0 8 ∧ (((((mA s6 7) (a0).toNatClampNeg) = 0) → post 0 s6) ∧ (¬ (((mA s6 7) (a0).toNatClampNeg) = 0) → post 1 s6)))) ∧ ((a1 = 7) → (vp_in a0 8 ∧ (((((mA s6 12) (a0).toNatClampNeg) = 0) → post 0 s6) ∧ (¬ (((mA s6 12) (a0).toNatClampNeg) = 0) → post 1 s6)))))) ∧ ((a1 = 6) → (vp_in a0 8 ∧ (((((mA s6 11) (a0).toNatClampNeg) ≤ 0) → post (-1) s6) ∧ (¬ (((mA s6 11) (a0).toNatClampNeg) ≤ 0) → post ((mA s6 10) (a0).toNatClampNeg) s6)))))) ∧ (¬ (6 ≤ a1) → ((¬ (a1 = 3) → ((¬ (a1 = 4) → (vp_in a0 8 ∧ post ((mA s6 6) (a0).toNatClampNeg) s6)) ∧ ((a1 = 4) → (vp_in a0 8 ∧ post ((mA s6 5) (a0).toNatClampNeg) s6)))) ∧ ((a1 = 3) → (vp_in a0 8 ∧ post ((mA s6 4) (a0).toNatClampNeg) s6)))))) ∧ (¬ (3 ≤ a1) → ((¬ (a1 = 0) → ((¬ (a1 = 1) → (vp_in a0 8 ∧ post ((mA s6 3) (a0).toNatClampNeg) s6)) ∧ ((a1 = 1) → (vp_in a0 8 ∧ post ((mA s6 2) (a0).toNatClampNeg) s6)))) ∧ ((a1 = 0) → (vp_in a0 8 ∧ (((((mA s6 1) (a0).toNatClampNeg) = 0) → post 0 s6) ∧ (¬ (((mA s6 1) (a0).toNatClampNeg) = 0) → post 1 s6)))))))) ∧ ((r7 = 0) → wp_m_fail (fun r32 s31 => post r32 s31) s6 1))) s1 a1 0 8))) (vG 0 0 σ) a0
set_option maxHeartbeats 4000000 in
set_option maxRecDepth 100000 in
theorem c_m_client (l : Launch) (D : va_G) (ca : Nat → ClassId) (ad : Nat → Nat → Nat) (σ : Sm) (a0 : Int32) (a1 : Int32) (sz : Nat) (post : Int32 → Sm → Prop) (hw : wp_m_client post σ a0 a1) : Met l yM_client wsM_client ({ frames := 2, cells := 0, slots := 0, locals := 42 }) (va_Pc [.ref (ad 0 0), .int a0, .int a1] (preM D ca ad σ sz)) (va_Qi post (atM D ca ad (va_A (wM ca ad σ) sz)) (va_A (wM ca ad σ) sz)) 0 0 (va_A (wM ca ad σ) sz) := by
  refine Met.ofW (cc := cM_client) (maxL := 3) (ret := (some .int)) (by decide) rfl ?_
  intro p e s m args below meth c s₁ B hml hv
  obtain ⟨rfl, hsz, hP, hK, hD0, hE⟩ := hv
  have hx := B.exec
  have hb := B.bytes
  have hr := B.returns
  have hts : ∀ w ∈ tbG, w.before _ s = true := fun w h => atoms_spec (ws := wsM_client) B.pre w (List.mem_cons_of_mem _ h)
  have hown : s.vm.findClass RM = some m.cls := findClass_of_methodNamed B.named
  have hlocks := B.notSynchronized
  subst hsz
  have hD := hD0.self (sz := s.heap.size)
  generalize hAe : va_A (wM ca ad σ) s.heap.size = A at hD hE ⊢
  have hA : ∀ q : Nat, s.heap.size ≤ q → A q := fun q h => by rw [← hAe]; exact Or.inr h
  clear hAe
  have hS : va_S A s.heap s.heap [] := va_S.rf
  have hl := lv_entry ([.ref (ad 0 0), .int a0, .int a1]) (n := 3) (Nat.le_of_ble_eq_true rfl)
  rw [lg_entry_eq]
  generalize (lg_sl ([.ref (ad 0 0), .int a0, .int a1]) ++ List.replicate (3 - (lg_sl ([.ref (ad 0 0), .int a0, .int a1])).length) Slot.unset).toArray = ls at hl ⊢
  have hl : lv_has ls 3 [(0, .ref (ad 0 0)), (1, .int a0), (2, .int a1)] := hl
  unfold wp_m_client at hw
  have hP : va_P D clX (wM ca ad σ) s.heap := hP
  refine lv_aload_n hx hb dM_client_0 rfl (lv_at hl 0 rfl) ?_
  refine lv_iconst (v := 0) hx hb dM_client_1 (by decide) ?_
  refine va_put (D := D) (ci := 5) (v := .int 0) (ty := .int) (C := RM) (T := TM) (N := 26) hx hb hts inM tyM tyM_ok nmM hown hK hP hD hS 0 gM_0 rfl 0 (by decide) (hts _ tw_591) (fun _ h9 => h9) rfl (by decide +kernel) rfl rfl (Nat.le_of_ble_eq_true rfl) dM_client_2 (fun H locs hP hD hS => ?_)
  rw [sM_0_0] at hP hD
  refine lv_iload_n hx hb dM_client_5 rfl (lv_at hl 1 rfl) ?_
  have hFc := px_free hD hS hA
  refine va_calli (va_runS (As := [.int a0]) (rest := []) ⟨hx, hb, hml, hown, hts⟩ (c_m_isClient l D ca ad (vG 0 0 σ) a0 _ _ hw) (va_cwS 1 hts (gS tw_691 tw_692 tw_7 tw_693) rfl rfl rfl (by decide +kernel) ⟨Nat.le_of_ble_eq_true rfl, Nat.le_of_ble_eq_true rfl⟩) ⟨pm_blind, fun U hU hW => pm_pre hP hK hD hE hS hFc hU hW⟩ rfl rfl hl.1 rfl (lv_room (Nat.le_of_ble_eq_true rfl)) dM_client_6 ⟨Nat.le_of_ble_eq_true rfl, Nat.le_of_ble_eq_true rfl⟩) hS (fun q _ h => hFc q h) hFc (fun r2 s1 t H locs ht hvm hw hB _ _ hS => ?_)
  obtain ⟨hP, -, hD⟩ := hB
  rw [ht] at hP
  have hD := hD.weaken (fun _ _ _ h9 => hFc _ h9)
  refine lv_if_eq (tgt := 22) hx hb dM_client_9 (by decide) (fun c3 => ?_) (fun c3 => ?_)
  · have hw := hw.1 c3
    refine lv_aload_n hx hb dM_client_22 rfl (lv_at hl 0 rfl) ?_
    refine lv_iconst (v := 1) hx hb dM_client_23 (by decide) ?_
    have hFc := px_free hD hS hA
    refine va_calli (va_runV (As := [.int 1]) (rest := []) ⟨hx, hb, hml, hown, hts⟩ (c_m_fail l D ca ad s1 1 _ _ hw) (cwV 1 hts (gV tw_682 tw_684 tp_18 tw_7 tw_685) rfl rfl rfl (by decide +kernel) ⟨Nat.le_of_ble_eq_true rfl, Nat.le_of_ble_eq_true rfl⟩) ⟨pm_blind, (px_recv hK hP gM_0 rfl), fun U hU hW => pm_pre hP hK hD hE hS hFc hU hW⟩ rfl rfl hl.1 rfl (lv_room (Nat.le_of_ble_eq_true rfl)) dM_client_24 ⟨Nat.le_of_ble_eq_true rfl, Nat.le_of_ble_eq_true rfl⟩) hS (fun q _ h => hFc q h) hFc (fun r5 s4 t H locs ht hvm hw hB _ _ hS => ?_)
    obtain ⟨hP, -, hD⟩ := hB
    rw [ht] at hP
    have hD := hD.weaken (fun _ _ _ h9 => hFc _ h9)
    exact W.iret (v := r5) hx hb hr (fun t ht hW => ⟨⟨r5, s4, rfl, hw, by rw [ht]; exact hP, va_K.moved hW.alike hK, hD⟩, hS.F ht⟩) hS.2.2 dM_client_27
  · have hw := hw.2 c3
    refine lv_iload_n hx hb dM_client_12 rfl (lv_at hl 2 rfl) ?_
    refine lv_iconst (v := 0) hx hb dM_client_13 (by decide) ?_
    refine lv_bipush (v := 8) hx hb dM_client_14 (by decide) ?_
    have hFc := px_free hD hS hA
    refine va_calli (va_runS (As := [.int a1, .int 0, .int 8]) (rest := []) ⟨hx, hb, hml, hown, hts⟩ (c_m_within l D ca ad s1 a1 0 8 _ _ hw) (va_cwS 3 hts (gS tw_679 tw_680 tw_7 tw_681) rfl rfl rfl (by decide +kernel) ⟨Nat.le_of_ble_eq_true rfl, Nat.le_of_ble_eq_true rfl⟩) ⟨pm_blind, fun U hU hW => pm_pre hP hK hD hE hS hFc hU hW⟩ rfl rfl hl.1 rfl (lv_room (Nat.le_of_ble_eq_true rfl)) dM_client_16 ⟨Nat.le_of_ble_eq_true rfl, Nat.le_of_ble_eq_true rfl⟩) hS (fun q _ h => hFc q h) hFc (fun r7 s6 t H locs ht hvm hw hB _ _ hS => ?_)
    obtain ⟨hP, -, hD⟩ := hB
    rw [ht] at hP
    have hD := hD.weaken (fun _ _ _ h9 => hFc _ h9)
    refine lv_if_ne (tgt := 28) hx hb dM_client_19 (by decide) (fun c8 => ?_) (fun c8 => ?_)
    · have hw := hw.1 c8
      refine lv_iload_n hx hb dM_client_28 rfl (lv_at hl 2 rfl) ?_
      refine lv_iconst (v := 3) hx hb dM_client_29 (by decide) ?_
      refine lv_icmp_ge (tgt := 75) hx hb dM_client_30 (by decide) (fun c9 => ?_) (fun c9 => ?_)
      · have hw := hw.1 c9
        refine lv_iload_n hx hb dM_client_75 rfl (lv_at hl 2 rfl) ?_
        refine lv_bipush (v := 6) hx hb dM_client_76 (by decide) ?_
        refine lv_icmp_ge (tgt := 116) hx hb dM_client_78 (by decide) (fun c10 => ?_) (fun c10 => ?_)
        · have hw := hw.1 c10
          refine lv_iload_n hx hb dM_client_116 rfl (lv_at hl 2 rfl) ?_
          refine lv_bipush (v := 6) hx hb dM_client_117 (by decide) ?_
          refine lv_icmp_ne (tgt := 142) hx hb dM_client_119 (by decide) (fun c11 => ?_) (fun c11 => ?_)
          · have hw := hw.1 c11
            refine lv_iload_n hx hb dM_client_142 rfl (lv_at hl 2 rfl) ?_
            refine lv_bipush (v := 7) hx hb dM_client_143 (by decide) ?_
            refine lv_icmp_ne (tgt := 165) hx hb dM_client_145 (by decide) (fun c12 => ?_) (fun c12 => ?_)
            · have hw := hw.1 c12
              refine lv_aload_n hx hb dM_client_165 rfl (lv_at hl 0 rfl) ?_
              refine va_get (D := D) (ci := 5) (v := .ref (ad 8 0)) (C := RM) (T := TM) (N := 26) hx hb hts inM hown hK hP 0 gM_0 rfl 14 (by decide) (hts _ tw_605) (fun _ h9 => h9) rfl dM_client_166 ?_
              refine lv_iload_n hx hb dM_client_169 rfl (lv_at hl 1 rfl) ?_
              obtain ⟨hin13, hw⟩ := hw
              refine va_zald hx hb hK hP 8 1 gM_8 rfl hin13 dM_client_170 ?_
              refine lv_if_eq (tgt := 178) hx hb dM_client_171 (by decide) (fun c14 => ?_) (fun c14 => ?_)
              · have hw := hw.1 c14
                refine lv_iconst (v := 0) hx hb dM_client_178 (by decide) ?_
                exact W.iret (v := 0) hx hb hr (fun t ht hW => ⟨⟨0, s6, rfl, hw, by rw [ht]; exact hP, va_K.moved hW.alike hK, hD⟩, hS.F ht⟩) hS.2.2 dM_client_179
              · have hw := hw.2 c14
                refine lv_iconst (v := 1) hx hb dM_client_174 (by decide) ?_
                refine lv_goto (tgt := 179) hx hb dM_client_175 (by decide) ?_
                exact W.iret (v := 1) hx hb hr (fun t ht hW => ⟨⟨1, s6, rfl, hw, by rw [ht]; exact hP, va_K.moved hW.alike hK, hD⟩, hS.F ht⟩) hS.2.2 dM_client_179
            · have hw := hw.2 c12
              refine lv_aload_n hx hb dM_client_148 rfl (lv_at hl 0 rfl) ?_
              refine va_get (D := D) (ci := 5) (v := .ref (ad 13 0)) (C := RM) (T := TM) (N := 26) hx hb hts inM hown hK hP 0 gM_0 rfl 19 (by decide) (hts _ tw_610) (fun _ h9 => h9) rfl dM_client_149 ?_
              refine lv_iload_n hx hb dM_client_152 rfl (lv_at hl 1 rfl) ?_
              obtain ⟨hin15, hw⟩ := hw
              refine va_zald hx hb hK hP 13 1 gM_13 rfl hin15 dM_client_153 ?_
              refine lv_if_eq (tgt := 161) hx hb dM_client_154 (by decide) (fun c16 => ?_) (fun c16 => ?_)
              · have hw := hw.1 c16
                refine lv_iconst (v := 0) hx hb dM_client_161 (by decide) ?_
                refine lv_goto (tgt := 179) hx hb dM_client_162 (by decide) ?_
                exact W.iret (v := 0) hx hb hr (fun t ht hW => ⟨⟨0, s6, rfl, hw, by rw [ht]; exact hP, va_K.moved hW.alike hK, hD⟩, hS.F ht⟩) hS.2.2 dM_client_179
              · have hw := hw.2 c16
                refine lv_iconst (v := 1) hx hb dM_client_157 (by decide) ?_
                refine lv_goto (tgt := 179) hx hb dM_client_158 (by decide) ?_
                exact W.iret (v := 1) hx hb hr (fun t ht hW => ⟨⟨1, s6, rfl, hw, by rw [ht]; exact hP, va_K.moved hW.alike hK, hD⟩, hS.F ht⟩) hS.2.2 dM_client_179
          · have hw := hw.2 c11
            refine lv_aload_n hx hb dM_client_122 rfl (lv_at hl 0 rfl) ?_
            refine va_get (D := D) (ci := 5) (v := .ref (ad 12 0)) (C := RM) (T := TM) (N := 26) hx hb hts inM hown hK hP 0 gM_0 rfl 18 (by decide) (hts _ tw_609) (fun _ h9 => h9) rfl dM_client_123 ?_
            refine lv_iload_n hx hb dM_client_126 rfl (lv_at hl 1 rfl) ?_
            obtain ⟨hin17, hw⟩ := hw
            refine va_iald hx hb hK hP 12 0 gM_12 rfl hin17 dM_client_127 ?_
            refine lv_if_le (tgt := 140) hx hb dM_client_128 (by decide) (fun c18 => ?_) (fun c18 => ?_)
            · have hw := hw.1 c18
              refine lv_iconst (v := (-1)) hx hb dM_client_140 (by decide) ?_
              exact W.iret (v := (-1)) hx hb hr (fun t ht hW => ⟨⟨(-1), s6, rfl, hw, by rw [ht]; exact hP, va_K.moved hW.alike hK, hD⟩, hS.F ht⟩) hS.2.2 dM_client_141
            · have hw := hw.2 c18
              refine lv_aload_n hx hb dM_client_131 rfl (lv_at hl 0 rfl) ?_
              refine va_get (D := D) (ci := 5) (v := .ref (ad 11 0)) (C := RM) (T := TM) (N := 26) hx hb hts inM hown hK hP 0 gM_0 rfl 17 (by decide) (hts _ tw_608) (fun _ h9 => h9) rfl dM_client_132 ?_
              refine lv_iload_n hx hb dM_client_135 rfl (lv_at hl 1 rfl) ?_
              refine va_iald hx hb hK hP 11 0 gM_11 rfl hin17 dM_client_136 ?_
              refine lv_goto (tgt := 141) hx hb dM_client_137 (by decide) ?_
              exact W.iret (v := ((mA s6 10) (a0).toNatClampNeg)) hx hb hr (fun t ht hW => ⟨⟨((mA s6 10) (a0).toNatClampNeg), s6, rfl, hw, by rw [ht]; exact hP, va_K.moved hW.alike hK, hD⟩, hS.F ht⟩) hS.2.2 dM_client_141
        · have hw := hw.2 c10
          refine lv_iload_n hx hb dM_client_81 rfl (lv_at hl 2 rfl) ?_
          refine lv_iconst (v := 3) hx hb dM_client_82 (by decide) ?_
          refine lv_icmp_ne (tgt := 95) hx hb dM_client_83 (by decide) (fun c20 => ?_) (fun c20 => ?_)
          · have hw := hw.1 c20
            refine lv_iload_n hx hb dM_client_95 rfl (lv_at hl 2 rfl) ?_
            refine lv_iconst (v := 4) hx hb dM_client_96 (by decide) ?_
            refine lv_icmp_ne (tgt := 109) hx hb dM_client_97 (by decide) (fun c21 => ?_) (fun c21 => ?_)
            · have hw := hw.1 c21
              refine lv_aload_n hx hb dM_client_109 rfl (lv_at hl 0 rfl) ?_
              refine va_get (D := D) (ci := 5) (v := .ref (ad 7 0)) (C := RM) (T := TM) (N := 26) hx hb hts inM hown hK hP 0 gM_0 rfl 13 (by decide) (hts _ tw_604) (fun _ h9 => h9) rfl dM_client_110 ?_
              refine lv_iload_n hx hb dM_client_113 rfl (lv_at hl 1 rfl) ?_
              obtain ⟨hin22, hw⟩ := hw
              refine va_iald hx hb hK hP 7 0 gM_7 rfl hin22 dM_client_114 ?_
              exact W.iret (v := ((mA s6 6) (a0).toNatClampNeg)) hx hb hr (fun t ht hW => ⟨⟨((mA s6 6) (a0).toNatClampNeg), s6, rfl, hw, by rw [ht]; exact hP, va_K.moved hW.alike hK, hD⟩, hS.F ht⟩) hS.2.2 dM_client_115
            · have hw := hw.2 c21
              refine lv_aload_n hx hb dM_client_100 rfl (lv_at hl 0 rfl) ?_
              refine va_get (D := D) (ci := 5) (v := .ref (ad 6 0)) (C := RM) (T := TM) (N := 26) hx hb hts inM hown hK hP 0 gM_0 rfl 12 (by decide) (hts _ tw_603) (fun _ h9 => h9) rfl dM_client_101 ?_
              refine lv_iload_n hx hb dM_client_104 rfl (lv_at hl 1 rfl) ?_
              obtain ⟨hin23, hw⟩ := hw
              refine va_iald hx hb hK hP 6 0 gM_6 rfl hin23 dM_client_105 ?_
              refine lv_goto (tgt := 115) hx hb dM_client_106 (by decide) ?_
              exact W.iret (v := ((mA s6 5) (a0).toNatClampNeg)) hx hb hr (fun t ht hW => ⟨⟨((mA s6 5) (a0).toNatClampNeg), s6, rfl, hw, by rw [ht]; exact hP, va_K.moved hW.alike hK, hD⟩, hS.F ht⟩) hS.2.2 dM_client_115
          · have hw := hw.2 c20
            refine lv_aload_n hx hb dM_client_86 rfl (lv_at hl 0 rfl) ?_
            refine va_get (D := D) (ci := 5) (v := .ref (ad 5 0)) (C := RM) (T := TM) (N := 26) hx hb hts inM hown hK hP 0 gM_0 rfl 11 (by decide) (hts _ tw_602) (fun _ h9 => h9) rfl dM_client_87 ?_
            refine lv_iload_n hx hb dM_client_90 rfl (lv_at hl 1 rfl) ?_
            obtain ⟨hin24, hw⟩ := hw
            refine va_iald hx hb hK hP 5 0 gM_5 rfl hin24 dM_client_91 ?_
            refine lv_goto (tgt := 115) hx hb dM_client_92 (by decide) ?_
            exact W.iret (v := ((mA s6 4) (a0).toNatClampNeg)) hx hb hr (fun t ht hW => ⟨⟨((mA s6 4) (a0).toNatClampNeg), s6, rfl, hw, by rw [ht]; exact hP, va_K.moved hW.alike hK, hD⟩, hS.F ht⟩) hS.2.2 dM_client_115
      · have hw := hw.2 c9
        refine lv_iload_n hx hb dM_client_33 rfl (lv_at hl 2 rfl) ?_
        refine lv_if_ne (tgt := 54) hx hb dM_client_34 (by decide) (fun c25 => ?_) (fun c25 => ?_)
        · have hw := hw.1 c25
          refine lv_iload_n hx hb dM_client_54 rfl (lv_at hl 2 rfl) ?_
          refine lv_iconst (v := 1) hx hb dM_client_55 (by decide) ?_
          refine lv_icmp_ne (tgt := 68) hx hb dM_client_56 (by decide) (fun c26 => ?_) (fun c26 => ?_)
          · have hw := hw.1 c26
            refine lv_aload_n hx hb dM_client_68 rfl (lv_at hl 0 rfl) ?_
            refine va_get (D := D) (ci := 5) (v := .ref (ad 4 0)) (C := RM) (T := TM) (N := 26) hx hb hts inM hown hK hP 0 gM_0 rfl 10 (by decide) (hts _ tw_601) (fun _ h9 => h9) rfl dM_client_69 ?_
            refine lv_iload_n hx hb dM_client_72 rfl (lv_at hl 1 rfl) ?_
            obtain ⟨hin27, hw⟩ := hw
            refine va_iald hx hb hK hP 4 0 gM_4 rfl hin27 dM_client_73 ?_
            exact W.iret (v := ((mA s6 3) (a0).toNatClampNeg)) hx hb hr (fun t ht hW => ⟨⟨((mA s6 3) (a0).toNatClampNeg), s6, rfl, hw, by rw [ht]; exact hP, va_K.moved hW.alike hK, hD⟩, hS.F ht⟩) hS.2.2 dM_client_74
          · have hw := hw.2 c26
            refine lv_aload_n hx hb dM_client_59 rfl (lv_at hl 0 rfl) ?_
            refine va_get (D := D) (ci := 5) (v := .ref (ad 3 0)) (C := RM) (T := TM) (N := 26) hx hb hts inM hown hK hP 0 gM_0 rfl 9 (by decide) (hts _ tw_600) (fun _ h9 => h9) rfl dM_client_60 ?_
            refine lv_iload_n hx hb dM_client_63 rfl (lv_at hl 1 rfl) ?_
            obtain ⟨hin28, hw⟩ := hw
            refine va_iald hx hb hK hP 3 0 gM_3 rfl hin28 dM_client_64 ?_
            refine lv_goto (tgt := 74) hx hb dM_client_65 (by decide) ?_
            exact W.iret (v := ((mA s6 2) (a0).toNatClampNeg)) hx hb hr (fun t ht hW => ⟨⟨((mA s6 2) (a0).toNatClampNeg), s6, rfl, hw, by rw [ht]; exact hP, va_K.moved hW.alike hK, hD⟩, hS.F ht⟩) hS.2.2 dM_client_74
        · have hw := hw.2 c25
          refine lv_aload_n hx hb dM_client_37 rfl (lv_at hl 0 rfl) ?_
          refine va_get (D := D) (ci := 5) (v := .ref (ad 2 0)) (C := RM) (T := TM) (N := 26) hx hb hts inM hown hK hP 0 gM_0 rfl 8 (by decide) (hts _ tw_599) (fun _ h9 => h9) rfl dM_client_38 ?_
          refine lv_iload_n hx hb dM_client_41 rfl (lv_at hl 1 rfl) ?_
          obtain ⟨hin29, hw⟩ := hw
          refine va_zald hx hb hK hP 2 1 gM_2 rfl hin29 dM_client_42 ?_
          refine lv_if_eq (tgt := 50) hx hb dM_client_43 (by decide) (fun c30 => ?_) (fun c30 => ?_)
          · have hw := hw.1 c30
            refine lv_iconst (v := 0) hx hb dM_client_50 (by decide) ?_
            refine lv_goto (tgt := 74) hx hb dM_client_51 (by decide) ?_
            exact W.iret (v := 0) hx hb hr (fun t ht hW => ⟨⟨0, s6, rfl, hw, by rw [ht]; exact hP, va_K.moved hW.alike hK, hD⟩, hS.F ht⟩) hS.2.2 dM_client_74
          · have hw := hw.2 c30
            refine lv_iconst (v := 1) hx hb dM_client_46 (by decide) ?_
            refine lv_goto (tgt := 74) hx hb dM_client_47 (by decide) ?_
            exact W.iret (v := 1) hx hb hr (fun t ht hW => ⟨⟨1, s6, rfl, hw, by rw [ht]; exact hP, va_K.moved hW.alike hK, hD⟩, hS.F ht⟩) hS.2.2 dM_client_74
    · have hw := hw.2 c8
      refine lv_aload_n hx hb dM_client_22 rfl (lv_at hl 0 rfl) ?_
      refine lv_iconst (v := 1) hx hb dM_client_23 (by decide) ?_
      have hFc := px_free hD hS hA
      refine va_calli (va_runV (As := [.int 1]) (rest := []) ⟨hx, hb, hml, hown, hts⟩ (c_m_fail l D ca ad s6 1 _ _ hw) (cwV 1 hts (gV tw_682 tw_684 tp_18 tw_7 tw_685) rfl rfl rfl (by decide +kernel) ⟨Nat.le_of_ble_eq_true rfl, Nat.le_of_ble_eq_true rfl⟩) ⟨pm_blind, (px_recv hK hP gM_0 rfl), fun U hU hW => pm_pre hP hK hD hE hS hFc hU hW⟩ rfl rfl hl.1 rfl (lv_room (Nat.le_of_ble_eq_true rfl)) dM_client_24 ⟨Nat.le_of_ble_eq_true rfl, Nat.le_of_ble_eq_true rfl⟩) hS (fun q _ h => hFc q h) hFc (fun r32 s31 t H locs ht hvm hw hB _ _ hS => ?_)
      obtain ⟨hP, -, hD⟩ := hB
      rw [ht] at hP
      have hD := hD.weaken (fun _ _ _ h9 => hFc _ h9)
      exact W.iret (v := r32) hx hb hr (fun t ht hW => ⟨⟨r32, s31, rfl, hw, by rw [ht]; exact hP, va_K.moved hW.alike hK, hD⟩, hS.F ht⟩) hS.2.2 dM_client_27
theorem dM_request_0 : decode cM_request 0 = .ok (.aload_n 0, 1) := by decide +kernel
theorem dM_request_1 : decode cM_request 1 = .ok (.iconst 0, 1) := by decide +kernel
theorem dM_request_2 : decode cM_request 2 = .ok (.putfield 68, 3) := by decide +kernel
theorem dM_request_5 : decode cM_request 5 = .ok (.iload_n 1, 1) := by decide +kernel
theorem dM_request_6 : decode cM_request 6 = .ok (.iconst 0, 1) := by decide +kernel
theorem dM_request_7 : decode cM_request 7 = .ok (.bipush 63, 2) := by decide +kernel
theorem dM_request_9 : decode cM_request 9 = .ok (.invokestatic 72, 3) := by decide +kernel
theorem dM_request_12 : decode cM_request 12 = .ok (.ifCond .eq 21, 3) := by decide +kernel
theorem dM_request_15 : decode cM_request 15 = .ok (.iload_n 1, 1) := by decide +kernel
theorem dM_request_16 : decode cM_request 16 = .ok (.aload_n 0, 1) := by decide +kernel
theorem dM_request_17 : decode cM_request 17 = .ok (.getfield 105, 3) := by decide +kernel
theorem dM_request_20 : decode cM_request 20 = .ok (.if_icmp .ge 13, 3) := by decide +kernel
theorem dM_request_23 : decode cM_request 23 = .ok (.iload_n 2, 1) := by decide +kernel
theorem dM_request_24 : decode cM_request 24 = .ok (.iconst 0, 1) := by decide +kernel
theorem dM_request_25 : decode cM_request 25 = .ok (.bipush 7, 2) := by decide +kernel
theorem dM_request_27 : decode cM_request 27 = .ok (.invokestatic 72, 3) := by decide +kernel
theorem dM_request_30 : decode cM_request 30 = .ok (.ifCond .ne 5, 3) := by decide +kernel
theorem dM_request_33 : decode cM_request 33 = .ok (.iconst (-1), 1) := by decide +kernel
theorem dM_request_34 : decode cM_request 34 = .ok (.ireturn, 1) := by decide +kernel
theorem dM_request_35 : decode cM_request 35 = .ok (.aload_n 0, 1) := by decide +kernel
theorem dM_request_36 : decode cM_request 36 = .ok (.getfield 62, 3) := by decide +kernel
theorem dM_request_39 : decode cM_request 39 = .ok (.bipush 8, 2) := by decide +kernel
theorem dM_request_41 : decode cM_request 41 = .ok (.aload_n 0, 1) := by decide +kernel
theorem dM_request_42 : decode cM_request 42 = .ok (.getfield 105, 3) := by decide +kernel
theorem dM_request_45 : decode cM_request 45 = .ok (.iconst 1, 1) := by decide +kernel
theorem dM_request_46 : decode cM_request 46 = .ok (.isub, 1) := by decide +kernel
theorem dM_request_47 : decode cM_request 47 = .ok (.iload_n 1, 1) := by decide +kernel
theorem dM_request_48 : decode cM_request 48 = .ok (.isub, 1) := by decide +kernel
theorem dM_request_49 : decode cM_request 49 = .ok (.bipush 64, 2) := by decide +kernel
theorem dM_request_51 : decode cM_request 51 = .ok (.irem, 1) := by decide +kernel
theorem dM_request_52 : decode cM_request 52 = .ok (.imul, 1) := by decide +kernel
theorem dM_request_53 : decode cM_request 53 = .ok (.iload_n 2, 1) := by decide +kernel
theorem dM_request_54 : decode cM_request 54 = .ok (.iadd, 1) := by decide +kernel
theorem dM_request_55 : decode cM_request 55 = .ok (.iaload, 1) := by decide +kernel
theorem dM_request_56 : decode cM_request 56 = .ok (.ireturn, 1) := by decide +kernel
def wp_m_request (post : Int32 → Sm → Prop) (σ : Sm) (a0 : Int32) (a1 : Int32) : Prop := wp_m_within (fun r2 s1 => (((r2 = 0) → post (-1) s1) ∧ (¬ (r2 = 0) → ((((mG s1 4) ≤ a0) → post (-1) s1) ∧ (¬ ((mG s1 4) ≤ a0) → wp_m_within (fun r6 s5 => ((¬ (r6 = 0) → (vp_in ((8 * ((((mG s5 4) - 1) - a0) - (((mG s5 4) - 1) - a0) / 64 * 64)) + a1) 512 ∧ post ((mA s5 17) ((8 * ((((mG s5 4) - 1) - a0) - (((mG s5 4) - 1) - a0) / 64 * 64)) + a1).toNatClampNeg) s5)) ∧ ((r6 = 0) → post (-1) s5))) s1 a1 0 7))))) (vG 0 0 σ) a0 0 63
set_option maxHeartbeats 4000000 in
set_option maxRecDepth 100000 in
theorem c_m_request (l : Launch) (D : va_G) (ca : Nat → ClassId) (ad : Nat → Nat → Nat) (σ : Sm) (a0 : Int32) (a1 : Int32) (sz : Nat) (post : Int32 → Sm → Prop) (hw : wp_m_request post σ a0 a1) : Met l yM_request wsM_request ({ frames := 1, cells := 0, slots := 0, locals := 22 }) (va_Pc [.ref (ad 0 0), .int a0, .int a1] (preM D ca ad σ sz)) (va_Qi post (atM D ca ad (va_A (wM ca ad σ) sz)) (va_A (wM ca ad σ) sz)) 0 0 (va_A (wM ca ad σ) sz) := by
  refine Met.ofW (cc := cM_request) (maxL := 3) (ret := (some .int)) (by decide) rfl ?_
  intro p e s m args below meth c s₁ B hml hv
  obtain ⟨rfl, hsz, hP, hK, hD0, hE⟩ := hv
  have hx := B.exec
  have hb := B.bytes
  have hr := B.returns
  have hts : ∀ w ∈ tbG, w.before _ s = true := fun w h => atoms_spec (ws := wsM_request) B.pre w (List.mem_cons_of_mem _ h)
  have hown : s.vm.findClass RM = some m.cls := findClass_of_methodNamed B.named
  have hlocks := B.notSynchronized
  subst hsz
  have hD := hD0.self (sz := s.heap.size)
  generalize hAe : va_A (wM ca ad σ) s.heap.size = A at hD hE ⊢
  have hA : ∀ q : Nat, s.heap.size ≤ q → A q := fun q h => by rw [← hAe]; exact Or.inr h
  clear hAe
  have hS : va_S A s.heap s.heap [] := va_S.rf
  have hl := lv_entry ([.ref (ad 0 0), .int a0, .int a1]) (n := 3) (Nat.le_of_ble_eq_true rfl)
  rw [lg_entry_eq]
  generalize (lg_sl ([.ref (ad 0 0), .int a0, .int a1]) ++ List.replicate (3 - (lg_sl ([.ref (ad 0 0), .int a0, .int a1])).length) Slot.unset).toArray = ls at hl ⊢
  have hl : lv_has ls 3 [(0, .ref (ad 0 0)), (1, .int a0), (2, .int a1)] := hl
  unfold wp_m_request at hw
  have hP : va_P D clX (wM ca ad σ) s.heap := hP
  refine lv_aload_n hx hb dM_request_0 rfl (lv_at hl 0 rfl) ?_
  refine lv_iconst (v := 0) hx hb dM_request_1 (by decide) ?_
  refine va_put (D := D) (ci := 5) (v := .int 0) (ty := .int) (C := RM) (T := TM) (N := 26) hx hb hts inM tyM tyM_ok nmM hown hK hP hD hS 0 gM_0 rfl 0 (by decide) (hts _ tw_591) (fun _ h9 => h9) rfl (by decide +kernel) rfl rfl (Nat.le_of_ble_eq_true rfl) dM_request_2 (fun H locs hP hD hS => ?_)
  rw [sM_0_0] at hP hD
  refine lv_iload_n hx hb dM_request_5 rfl (lv_at hl 1 rfl) ?_
  refine lv_iconst (v := 0) hx hb dM_request_6 (by decide) ?_
  refine lv_bipush (v := 63) hx hb dM_request_7 (by decide) ?_
  have hFc := px_free hD hS hA
  refine va_calli (va_runS (As := [.int a0, .int 0, .int 63]) (rest := []) ⟨hx, hb, hml, hown, hts⟩ (c_m_within l D ca ad (vG 0 0 σ) a0 0 63 _ _ hw) (va_cwS 3 hts (gS tw_679 tw_680 tw_7 tw_681) rfl rfl rfl (by decide +kernel) ⟨Nat.le_of_ble_eq_true rfl, Nat.le_of_ble_eq_true rfl⟩) ⟨pm_blind, fun U hU hW => pm_pre hP hK hD hE hS hFc hU hW⟩ rfl rfl hl.1 rfl (lv_room (Nat.le_of_ble_eq_true rfl)) dM_request_9 ⟨Nat.le_of_ble_eq_true rfl, Nat.le_of_ble_eq_true rfl⟩) hS (fun q _ h => hFc q h) hFc (fun r2 s1 t H locs ht hvm hw hB _ _ hS => ?_)
  obtain ⟨hP, -, hD⟩ := hB
  rw [ht] at hP
  have hD := hD.weaken (fun _ _ _ h9 => hFc _ h9)
  refine lv_if_eq (tgt := 33) hx hb dM_request_12 (by decide) (fun c3 => ?_) (fun c3 => ?_)
  · have hw := hw.1 c3
    refine lv_iconst (v := (-1)) hx hb dM_request_33 (by decide) ?_
    exact W.iret (v := (-1)) hx hb hr (fun t ht hW => ⟨⟨(-1), s1, rfl, hw, by rw [ht]; exact hP, va_K.moved hW.alike hK, hD⟩, hS.F ht⟩) hS.2.2 dM_request_34
  · have hw := hw.2 c3
    refine lv_iload_n hx hb dM_request_15 rfl (lv_at hl 1 rfl) ?_
    refine lv_aload_n hx hb dM_request_16 rfl (lv_at hl 0 rfl) ?_
    refine va_get (D := D) (ci := 5) (v := .int (mG s1 4)) (C := RM) (T := TM) (N := 26) hx hb hts inM hown hK hP 0 gM_0 rfl 4 (by decide) (hts _ tw_595) (fun _ h9 => h9) rfl dM_request_17 ?_
    refine lv_icmp_ge (tgt := 33) hx hb dM_request_20 (by decide) (fun c4 => ?_) (fun c4 => ?_)
    · have hw := hw.1 c4
      refine lv_iconst (v := (-1)) hx hb dM_request_33 (by decide) ?_
      exact W.iret (v := (-1)) hx hb hr (fun t ht hW => ⟨⟨(-1), s1, rfl, hw, by rw [ht]; exact hP, va_K.moved hW.alike hK, hD⟩, hS.F ht⟩) hS.2.2 dM_request_34
    · have hw := hw.2 c4
      refine lv_iload_n hx hb dM_request_23 rfl (lv_at hl 2 rfl) ?_
      refine lv_iconst (v := 0) hx hb dM_request_24 (by decide) ?_
      refine lv_bipush (v := 7) hx hb dM_request_25 (by decide) ?_
      have hFc := px_free hD hS hA
      refine va_calli (va_runS (As := [.int a1, .int 0, .int 7]) (rest := []) ⟨hx, hb, hml, hown, hts⟩ (c_m_within l D ca ad s1 a1 0 7 _ _ hw) (va_cwS 3 hts (gS tw_679 tw_680 tw_7 tw_681) rfl rfl rfl (by decide +kernel) ⟨Nat.le_of_ble_eq_true rfl, Nat.le_of_ble_eq_true rfl⟩) ⟨pm_blind, fun U hU hW => pm_pre hP hK hD hE hS hFc hU hW⟩ rfl rfl hl.1 rfl (lv_room (Nat.le_of_ble_eq_true rfl)) dM_request_27 ⟨Nat.le_of_ble_eq_true rfl, Nat.le_of_ble_eq_true rfl⟩) hS (fun q _ h => hFc q h) hFc (fun r6 s5 t H locs ht hvm hw hB _ _ hS => ?_)
      obtain ⟨hP, -, hD⟩ := hB
      rw [ht] at hP
      have hD := hD.weaken (fun _ _ _ h9 => hFc _ h9)
      refine lv_if_ne (tgt := 35) hx hb dM_request_30 (by decide) (fun c7 => ?_) (fun c7 => ?_)
      · have hw := hw.1 c7
        refine lv_aload_n hx hb dM_request_35 rfl (lv_at hl 0 rfl) ?_
        refine va_get (D := D) (ci := 5) (v := .ref (ad 18 0)) (C := RM) (T := TM) (N := 26) hx hb hts inM hown hK hP 0 gM_0 rfl 24 (by decide) (hts _ tw_615) (fun _ h9 => h9) rfl dM_request_36 ?_
        refine lv_bipush (v := 8) hx hb dM_request_39 (by decide) ?_
        refine lv_aload_n hx hb dM_request_41 rfl (lv_at hl 0 rfl) ?_
        refine va_get (D := D) (ci := 5) (v := .int (mG s5 4)) (C := RM) (T := TM) (N := 26) hx hb hts inM hown hK hP 0 gM_0 rfl 4 (by decide) (hts _ tw_595) (fun _ h9 => h9) rfl dM_request_42 ?_
        refine lv_iconst (v := 1) hx hb dM_request_45 (by decide) ?_
        refine lv_isub hx hb dM_request_46 ?_
        refine lv_iload_n hx hb dM_request_47 rfl (lv_at hl 1 rfl) ?_
        refine lv_isub hx hb dM_request_48 ?_
        refine lv_bipush (v := 64) hx hb dM_request_49 (by decide) ?_
        refine lv_irem hx hb dM_request_51 (by decide) ?_
        refine lv_imul hx hb dM_request_52 ?_
        refine lv_iload_n hx hb dM_request_53 rfl (lv_at hl 2 rfl) ?_
        refine lv_iadd hx hb dM_request_54 ?_
        obtain ⟨hin8, hw⟩ := hw
        refine va_iald hx hb hK hP 18 0 gM_18 rfl hin8 dM_request_55 ?_
        exact W.iret (v := ((mA s5 17) ((8 * ((((mG s5 4) - 1) - a0) - (((mG s5 4) - 1) - a0) / 64 * 64)) + a1).toNatClampNeg)) hx hb hr (fun t ht hW => ⟨⟨((mA s5 17) ((8 * ((((mG s5 4) - 1) - a0) - (((mG s5 4) - 1) - a0) / 64 * 64)) + a1).toNatClampNeg), s5, rfl, hw, by rw [ht]; exact hP, va_K.moved hW.alike hK, hD⟩, hS.F ht⟩) hS.2.2 dM_request_56
      · have hw := hw.2 c7
        refine lv_iconst (v := (-1)) hx hb dM_request_33 (by decide) ?_
        exact W.iret (v := (-1)) hx hb hr (fun t ht hW => ⟨⟨(-1), s5, rfl, hw, by rw [ht]; exact hP, va_K.moved hW.alike hK, hD⟩, hS.F ht⟩) hS.2.2 dM_request_34
theorem dM_dataAt_0 : decode cM_dataAt 0 = .ok (.aload_n 0, 1) := by decide +kernel
theorem dM_dataAt_1 : decode cM_dataAt 1 = .ok (.iconst 0, 1) := by decide +kernel
theorem dM_dataAt_2 : decode cM_dataAt 2 = .ok (.putfield 68, 3) := by decide +kernel
theorem dM_dataAt_5 : decode cM_dataAt 5 = .ok (.iload_n 1, 1) := by decide +kernel
theorem dM_dataAt_6 : decode cM_dataAt 6 = .ok (.invokestatic 115, 3) := by decide +kernel
theorem dM_dataAt_9 : decode cM_dataAt 9 = .ok (.ifCond .eq 34, 3) := by decide +kernel
theorem dM_dataAt_12 : decode cM_dataAt 12 = .ok (.iload_n 2, 1) := by decide +kernel
theorem dM_dataAt_13 : decode cM_dataAt 13 = .ok (.iconst 0, 1) := by decide +kernel
theorem dM_dataAt_14 : decode cM_dataAt 14 = .ok (.aload_n 0, 1) := by decide +kernel
theorem dM_dataAt_15 : decode cM_dataAt 15 = .ok (.getfield 50, 3) := by decide +kernel
theorem dM_dataAt_18 : decode cM_dataAt 18 = .ok (.iload_n 1, 1) := by decide +kernel
theorem dM_dataAt_19 : decode cM_dataAt 19 = .ok (.iaload, 1) := by decide +kernel
theorem dM_dataAt_20 : decode cM_dataAt 20 = .ok (.iconst 1, 1) := by decide +kernel
theorem dM_dataAt_21 : decode cM_dataAt 21 = .ok (.isub, 1) := by decide +kernel
theorem dM_dataAt_22 : decode cM_dataAt 22 = .ok (.invokestatic 72, 3) := by decide +kernel
theorem dM_dataAt_25 : decode cM_dataAt 25 = .ok (.ifCond .eq 18, 3) := by decide +kernel
theorem dM_dataAt_28 : decode cM_dataAt 28 = .ok (.aload_n 0, 1) := by decide +kernel
theorem dM_dataAt_29 : decode cM_dataAt 29 = .ok (.getfield 53, 3) := by decide +kernel
theorem dM_dataAt_32 : decode cM_dataAt 32 = .ok (.sipush 240, 3) := by decide +kernel
theorem dM_dataAt_35 : decode cM_dataAt 35 = .ok (.iload_n 1, 1) := by decide +kernel
theorem dM_dataAt_36 : decode cM_dataAt 36 = .ok (.imul, 1) := by decide +kernel
theorem dM_dataAt_37 : decode cM_dataAt 37 = .ok (.iload_n 2, 1) := by decide +kernel
theorem dM_dataAt_38 : decode cM_dataAt 38 = .ok (.iadd, 1) := by decide +kernel
theorem dM_dataAt_39 : decode cM_dataAt 39 = .ok (.iaload, 1) := by decide +kernel
theorem dM_dataAt_40 : decode cM_dataAt 40 = .ok (.goto 8, 3) := by decide +kernel
theorem dM_dataAt_43 : decode cM_dataAt 43 = .ok (.aload_n 0, 1) := by decide +kernel
theorem dM_dataAt_44 : decode cM_dataAt 44 = .ok (.iconst 1, 1) := by decide +kernel
theorem dM_dataAt_45 : decode cM_dataAt 45 = .ok (.invokevirtual 76, 3) := by decide +kernel
theorem dM_dataAt_48 : decode cM_dataAt 48 = .ok (.ireturn, 1) := by decide +kernel
def wp_m_dataAt (post : Int32 → Sm → Prop) (σ : Sm) (a0 : Int32) (a1 : Int32) : Prop := wp_m_isClient (fun r2 s1 => (((r2 = 0) → wp_m_fail (fun r5 s4 => post r5 s4) s1 1) ∧ (¬ (r2 = 0) → (vp_in a0 8 ∧ wp_m_within (fun r8 s7 => (((r8 = 0) → wp_m_fail (fun r11 s10 => post r11 s10) s7 1) ∧ (¬ (r8 = 0) → (vp_in ((240 * a0) + a1) 1920 ∧ post ((mA s7 14) ((240 * a0) + a1).toNatClampNeg) s7)))) s1 a1 0 (((mA s1 13) (a0).toNatClampNeg) - 1))))) (vG 0 0 σ) a0
set_option maxHeartbeats 4000000 in
set_option maxRecDepth 100000 in
theorem c_m_dataAt (l : Launch) (D : va_G) (ca : Nat → ClassId) (ad : Nat → Nat → Nat) (σ : Sm) (a0 : Int32) (a1 : Int32) (sz : Nat) (post : Int32 → Sm → Prop) (hw : wp_m_dataAt post σ a0 a1) : Met l yM_dataAt wsM_dataAt ({ frames := 2, cells := 0, slots := 0, locals := 42 }) (va_Pc [.ref (ad 0 0), .int a0, .int a1] (preM D ca ad σ sz)) (va_Qi post (atM D ca ad (va_A (wM ca ad σ) sz)) (va_A (wM ca ad σ) sz)) 0 0 (va_A (wM ca ad σ) sz) := by
  refine Met.ofW (cc := cM_dataAt) (maxL := 3) (ret := (some .int)) (by decide) rfl ?_
  intro p e s m args below meth c s₁ B hml hv
  obtain ⟨rfl, hsz, hP, hK, hD0, hE⟩ := hv
  have hx := B.exec
  have hb := B.bytes
  have hr := B.returns
  have hts : ∀ w ∈ tbG, w.before _ s = true := fun w h => atoms_spec (ws := wsM_dataAt) B.pre w (List.mem_cons_of_mem _ h)
  have hown : s.vm.findClass RM = some m.cls := findClass_of_methodNamed B.named
  have hlocks := B.notSynchronized
  subst hsz
  have hD := hD0.self (sz := s.heap.size)
  generalize hAe : va_A (wM ca ad σ) s.heap.size = A at hD hE ⊢
  have hA : ∀ q : Nat, s.heap.size ≤ q → A q := fun q h => by rw [← hAe]; exact Or.inr h
  clear hAe
  have hS : va_S A s.heap s.heap [] := va_S.rf
  have hl := lv_entry ([.ref (ad 0 0), .int a0, .int a1]) (n := 3) (Nat.le_of_ble_eq_true rfl)
  rw [lg_entry_eq]
  generalize (lg_sl ([.ref (ad 0 0), .int a0, .int a1]) ++ List.replicate (3 - (lg_sl ([.ref (ad 0 0), .int a0, .int a1])).length) Slot.unset).toArray = ls at hl ⊢
  have hl : lv_has ls 3 [(0, .ref (ad 0 0)), (1, .int a0), (2, .int a1)] := hl
  unfold wp_m_dataAt at hw
  have hP : va_P D clX (wM ca ad σ) s.heap := hP
  refine lv_aload_n hx hb dM_dataAt_0 rfl (lv_at hl 0 rfl) ?_
  refine lv_iconst (v := 0) hx hb dM_dataAt_1 (by decide) ?_
  refine va_put (D := D) (ci := 5) (v := .int 0) (ty := .int) (C := RM) (T := TM) (N := 26) hx hb hts inM tyM tyM_ok nmM hown hK hP hD hS 0 gM_0 rfl 0 (by decide) (hts _ tw_591) (fun _ h9 => h9) rfl (by decide +kernel) rfl rfl (Nat.le_of_ble_eq_true rfl) dM_dataAt_2 (fun H locs hP hD hS => ?_)
  rw [sM_0_0] at hP hD
  refine lv_iload_n hx hb dM_dataAt_5 rfl (lv_at hl 1 rfl) ?_
  have hFc := px_free hD hS hA
  refine va_calli (va_runS (As := [.int a0]) (rest := []) ⟨hx, hb, hml, hown, hts⟩ (c_m_isClient l D ca ad (vG 0 0 σ) a0 _ _ hw) (va_cwS 1 hts (gS tw_691 tw_692 tw_7 tw_693) rfl rfl rfl (by decide +kernel) ⟨Nat.le_of_ble_eq_true rfl, Nat.le_of_ble_eq_true rfl⟩) ⟨pm_blind, fun U hU hW => pm_pre hP hK hD hE hS hFc hU hW⟩ rfl rfl hl.1 rfl (lv_room (Nat.le_of_ble_eq_true rfl)) dM_dataAt_6 ⟨Nat.le_of_ble_eq_true rfl, Nat.le_of_ble_eq_true rfl⟩) hS (fun q _ h => hFc q h) hFc (fun r2 s1 t H locs ht hvm hw hB _ _ hS => ?_)
  obtain ⟨hP, -, hD⟩ := hB
  rw [ht] at hP
  have hD := hD.weaken (fun _ _ _ h9 => hFc _ h9)
  refine lv_if_eq (tgt := 43) hx hb dM_dataAt_9 (by decide) (fun c3 => ?_) (fun c3 => ?_)
  · have hw := hw.1 c3
    refine lv_aload_n hx hb dM_dataAt_43 rfl (lv_at hl 0 rfl) ?_
    refine lv_iconst (v := 1) hx hb dM_dataAt_44 (by decide) ?_
    have hFc := px_free hD hS hA
    refine va_calli (va_runV (As := [.int 1]) (rest := []) ⟨hx, hb, hml, hown, hts⟩ (c_m_fail l D ca ad s1 1 _ _ hw) (cwV 1 hts (gV tw_682 tw_684 tp_18 tw_7 tw_685) rfl rfl rfl (by decide +kernel) ⟨Nat.le_of_ble_eq_true rfl, Nat.le_of_ble_eq_true rfl⟩) ⟨pm_blind, (px_recv hK hP gM_0 rfl), fun U hU hW => pm_pre hP hK hD hE hS hFc hU hW⟩ rfl rfl hl.1 rfl (lv_room (Nat.le_of_ble_eq_true rfl)) dM_dataAt_45 ⟨Nat.le_of_ble_eq_true rfl, Nat.le_of_ble_eq_true rfl⟩) hS (fun q _ h => hFc q h) hFc (fun r5 s4 t H locs ht hvm hw hB _ _ hS => ?_)
    obtain ⟨hP, -, hD⟩ := hB
    rw [ht] at hP
    have hD := hD.weaken (fun _ _ _ h9 => hFc _ h9)
    exact W.iret (v := r5) hx hb hr (fun t ht hW => ⟨⟨r5, s4, rfl, hw, by rw [ht]; exact hP, va_K.moved hW.alike hK, hD⟩, hS.F ht⟩) hS.2.2 dM_dataAt_48
  · have hw := hw.2 c3
    refine lv_iload_n hx hb dM_dataAt_12 rfl (lv_at hl 2 rfl) ?_
    refine lv_iconst (v := 0) hx hb dM_dataAt_13 (by decide) ?_
    refine lv_aload_n hx hb dM_dataAt_14 rfl (lv_at hl 0 rfl) ?_
    refine va_get (D := D) (ci := 5) (v := .ref (ad 14 0)) (C := RM) (T := TM) (N := 26) hx hb hts inM hown hK hP 0 gM_0 rfl 20 (by decide) (hts _ tw_611) (fun _ h9 => h9) rfl dM_dataAt_15 ?_
    refine lv_iload_n hx hb dM_dataAt_18 rfl (lv_at hl 1 rfl) ?_
    obtain ⟨hin6, hw⟩ := hw
    refine va_iald hx hb hK hP 14 0 gM_14 rfl hin6 dM_dataAt_19 ?_
    refine lv_iconst (v := 1) hx hb dM_dataAt_20 (by decide) ?_
    refine lv_isub hx hb dM_dataAt_21 ?_
    have hFc := px_free hD hS hA
    refine va_calli (va_runS (As := [.int a1, .int 0, .int (((mA s1 13) (a0).toNatClampNeg) - 1)]) (rest := []) ⟨hx, hb, hml, hown, hts⟩ (c_m_within l D ca ad s1 a1 0 (((mA s1 13) (a0).toNatClampNeg) - 1) _ _ hw) (va_cwS 3 hts (gS tw_679 tw_680 tw_7 tw_681) rfl rfl rfl (by decide +kernel) ⟨Nat.le_of_ble_eq_true rfl, Nat.le_of_ble_eq_true rfl⟩) ⟨pm_blind, fun U hU hW => pm_pre hP hK hD hE hS hFc hU hW⟩ rfl rfl hl.1 rfl (lv_room (Nat.le_of_ble_eq_true rfl)) dM_dataAt_22 ⟨Nat.le_of_ble_eq_true rfl, Nat.le_of_ble_eq_true rfl⟩) hS (fun q _ h => hFc q h) hFc (fun r8 s7 t H locs ht hvm hw hB _ _ hS => ?_)
    obtain ⟨hP, -, hD⟩ := hB
    rw [ht] at hP
    have hD := hD.weaken (fun _ _ _ h9 => hFc _ h9)
    refine lv_if_eq (tgt := 43) hx hb dM_dataAt_25 (by decide) (fun c9 => ?_) (fun c9 => ?_)
    · have hw := hw.1 c9
      refine lv_aload_n hx hb dM_dataAt_43 rfl (lv_at hl 0 rfl) ?_
      refine lv_iconst (v := 1) hx hb dM_dataAt_44 (by decide) ?_
      have hFc := px_free hD hS hA
      refine va_calli (va_runV (As := [.int 1]) (rest := []) ⟨hx, hb, hml, hown, hts⟩ (c_m_fail l D ca ad s7 1 _ _ hw) (cwV 1 hts (gV tw_682 tw_684 tp_18 tw_7 tw_685) rfl rfl rfl (by decide +kernel) ⟨Nat.le_of_ble_eq_true rfl, Nat.le_of_ble_eq_true rfl⟩) ⟨pm_blind, (px_recv hK hP gM_0 rfl), fun U hU hW => pm_pre hP hK hD hE hS hFc hU hW⟩ rfl rfl hl.1 rfl (lv_room (Nat.le_of_ble_eq_true rfl)) dM_dataAt_45 ⟨Nat.le_of_ble_eq_true rfl, Nat.le_of_ble_eq_true rfl⟩) hS (fun q _ h => hFc q h) hFc (fun r11 s10 t H locs ht hvm hw hB _ _ hS => ?_)
      obtain ⟨hP, -, hD⟩ := hB
      rw [ht] at hP
      have hD := hD.weaken (fun _ _ _ h9 => hFc _ h9)
      exact W.iret (v := r11) hx hb hr (fun t ht hW => ⟨⟨r11, s10, rfl, hw, by rw [ht]; exact hP, va_K.moved hW.alike hK, hD⟩, hS.F ht⟩) hS.2.2 dM_dataAt_48
    · have hw := hw.2 c9
      refine lv_aload_n hx hb dM_dataAt_28 rfl (lv_at hl 0 rfl) ?_
      refine va_get (D := D) (ci := 5) (v := .ref (ad 15 0)) (C := RM) (T := TM) (N := 26) hx hb hts inM hown hK hP 0 gM_0 rfl 21 (by decide) (hts _ tw_612) (fun _ h9 => h9) rfl dM_dataAt_29 ?_
      refine lv_sipush (v := 240) hx hb dM_dataAt_32 (by decide) ?_
      refine lv_iload_n hx hb dM_dataAt_35 rfl (lv_at hl 1 rfl) ?_
      refine lv_imul hx hb dM_dataAt_36 ?_
      refine lv_iload_n hx hb dM_dataAt_37 rfl (lv_at hl 2 rfl) ?_
      refine lv_iadd hx hb dM_dataAt_38 ?_
      obtain ⟨hin12, hw⟩ := hw
      refine va_iald hx hb hK hP 15 0 gM_15 rfl hin12 dM_dataAt_39 ?_
      refine lv_goto (tgt := 48) hx hb dM_dataAt_40 (by decide) ?_
      exact W.iret (v := ((mA s7 14) ((240 * a0) + a1).toNatClampNeg)) hx hb hr (fun t ht hW => ⟨⟨((mA s7 14) ((240 * a0) + a1).toNatClampNeg), s7, rfl, hw, by rw [ht]; exact hP, va_K.moved hW.alike hK, hD⟩, hS.F ht⟩) hS.2.2 dM_dataAt_48
theorem dM_answer_0 : decode cM_answer 0 = .ok (.aload_n 0, 1) := by decide +kernel
theorem dM_answer_1 : decode cM_answer 1 = .ok (.iconst 0, 1) := by decide +kernel
theorem dM_answer_2 : decode cM_answer 2 = .ok (.putfield 68, 3) := by decide +kernel
theorem dM_answer_5 : decode cM_answer 5 = .ok (.iload_n 1, 1) := by decide +kernel
theorem dM_answer_6 : decode cM_answer 6 = .ok (.invokestatic 115, 3) := by decide +kernel
theorem dM_answer_9 : decode cM_answer 9 = .ok (.ifCond .eq 12, 3) := by decide +kernel
theorem dM_answer_12 : decode cM_answer 12 = .ok (.aload_n 0, 1) := by decide +kernel
theorem dM_answer_13 : decode cM_answer 13 = .ok (.getfield 56, 3) := by decide +kernel
theorem dM_answer_16 : decode cM_answer 16 = .ok (.iload_n 1, 1) := by decide +kernel
theorem dM_answer_17 : decode cM_answer 17 = .ok (.iaload, 1) := by decide +kernel
theorem dM_answer_18 : decode cM_answer 18 = .ok (.goto 8, 3) := by decide +kernel
theorem dM_answer_21 : decode cM_answer 21 = .ok (.aload_n 0, 1) := by decide +kernel
theorem dM_answer_22 : decode cM_answer 22 = .ok (.iconst 1, 1) := by decide +kernel
theorem dM_answer_23 : decode cM_answer 23 = .ok (.invokevirtual 76, 3) := by decide +kernel
theorem dM_answer_26 : decode cM_answer 26 = .ok (.ireturn, 1) := by decide +kernel
def wp_m_answer (post : Int32 → Sm → Prop) (σ : Sm) (a0 : Int32) : Prop := wp_m_isClient (fun r2 s1 => (((r2 = 0) → wp_m_fail (fun r5 s4 => post r5 s4) s1 1) ∧ (¬ (r2 = 0) → (vp_in a0 8 ∧ post ((mA s1 15) (a0).toNatClampNeg) s1)))) (vG 0 0 σ) a0
set_option maxHeartbeats 4000000 in
set_option maxRecDepth 100000 in
theorem c_m_answer (l : Launch) (D : va_G) (ca : Nat → ClassId) (ad : Nat → Nat → Nat) (σ : Sm) (a0 : Int32) (sz : Nat) (post : Int32 → Sm → Prop) (hw : wp_m_answer post σ a0) : Met l yM_answer wsM_answer ({ frames := 2, cells := 0, slots := 0, locals := 42 }) (va_Pc [.ref (ad 0 0), .int a0] (preM D ca ad σ sz)) (va_Qi post (atM D ca ad (va_A (wM ca ad σ) sz)) (va_A (wM ca ad σ) sz)) 0 0 (va_A (wM ca ad σ) sz) := by
  refine Met.ofW (cc := cM_answer) (maxL := 2) (ret := (some .int)) (by decide) rfl ?_
  intro p e s m args below meth c s₁ B hml hv
  obtain ⟨rfl, hsz, hP, hK, hD0, hE⟩ := hv
  have hx := B.exec
  have hb := B.bytes
  have hr := B.returns
  have hts : ∀ w ∈ tbG, w.before _ s = true := fun w h => atoms_spec (ws := wsM_answer) B.pre w (List.mem_cons_of_mem _ h)
  have hown : s.vm.findClass RM = some m.cls := findClass_of_methodNamed B.named
  have hlocks := B.notSynchronized
  subst hsz
  have hD := hD0.self (sz := s.heap.size)
  generalize hAe : va_A (wM ca ad σ) s.heap.size = A at hD hE ⊢
  have hA : ∀ q : Nat, s.heap.size ≤ q → A q := fun q h => by rw [← hAe]; exact Or.inr h
  clear hAe
  have hS : va_S A s.heap s.heap [] := va_S.rf
  have hl := lv_entry ([.ref (ad 0 0), .int a0]) (n := 2) (Nat.le_of_ble_eq_true rfl)
  rw [lg_entry_eq]
  generalize (lg_sl ([.ref (ad 0 0), .int a0]) ++ List.replicate (2 - (lg_sl ([.ref (ad 0 0), .int a0])).length) Slot.unset).toArray = ls at hl ⊢
  have hl : lv_has ls 2 [(0, .ref (ad 0 0)), (1, .int a0)] := hl
  unfold wp_m_answer at hw
  have hP : va_P D clX (wM ca ad σ) s.heap := hP
  refine lv_aload_n hx hb dM_answer_0 rfl (lv_at hl 0 rfl) ?_
  refine lv_iconst (v := 0) hx hb dM_answer_1 (by decide) ?_
  refine va_put (D := D) (ci := 5) (v := .int 0) (ty := .int) (C := RM) (T := TM) (N := 26) hx hb hts inM tyM tyM_ok nmM hown hK hP hD hS 0 gM_0 rfl 0 (by decide) (hts _ tw_591) (fun _ h9 => h9) rfl (by decide +kernel) rfl rfl (Nat.le_of_ble_eq_true rfl) dM_answer_2 (fun H locs hP hD hS => ?_)
  rw [sM_0_0] at hP hD
  refine lv_iload_n hx hb dM_answer_5 rfl (lv_at hl 1 rfl) ?_
  have hFc := px_free hD hS hA
  refine va_calli (va_runS (As := [.int a0]) (rest := []) ⟨hx, hb, hml, hown, hts⟩ (c_m_isClient l D ca ad (vG 0 0 σ) a0 _ _ hw) (va_cwS 1 hts (gS tw_691 tw_692 tw_7 tw_693) rfl rfl rfl (by decide +kernel) ⟨Nat.le_of_ble_eq_true rfl, Nat.le_of_ble_eq_true rfl⟩) ⟨pm_blind, fun U hU hW => pm_pre hP hK hD hE hS hFc hU hW⟩ rfl rfl hl.1 rfl (lv_room (Nat.le_of_ble_eq_true rfl)) dM_answer_6 ⟨Nat.le_of_ble_eq_true rfl, Nat.le_of_ble_eq_true rfl⟩) hS (fun q _ h => hFc q h) hFc (fun r2 s1 t H locs ht hvm hw hB _ _ hS => ?_)
  obtain ⟨hP, -, hD⟩ := hB
  rw [ht] at hP
  have hD := hD.weaken (fun _ _ _ h9 => hFc _ h9)
  refine lv_if_eq (tgt := 21) hx hb dM_answer_9 (by decide) (fun c3 => ?_) (fun c3 => ?_)
  · have hw := hw.1 c3
    refine lv_aload_n hx hb dM_answer_21 rfl (lv_at hl 0 rfl) ?_
    refine lv_iconst (v := 1) hx hb dM_answer_22 (by decide) ?_
    have hFc := px_free hD hS hA
    refine va_calli (va_runV (As := [.int 1]) (rest := []) ⟨hx, hb, hml, hown, hts⟩ (c_m_fail l D ca ad s1 1 _ _ hw) (cwV 1 hts (gV tw_682 tw_684 tp_18 tw_7 tw_685) rfl rfl rfl (by decide +kernel) ⟨Nat.le_of_ble_eq_true rfl, Nat.le_of_ble_eq_true rfl⟩) ⟨pm_blind, (px_recv hK hP gM_0 rfl), fun U hU hW => pm_pre hP hK hD hE hS hFc hU hW⟩ rfl rfl hl.1 rfl (lv_room (Nat.le_of_ble_eq_true rfl)) dM_answer_23 ⟨Nat.le_of_ble_eq_true rfl, Nat.le_of_ble_eq_true rfl⟩) hS (fun q _ h => hFc q h) hFc (fun r5 s4 t H locs ht hvm hw hB _ _ hS => ?_)
    obtain ⟨hP, -, hD⟩ := hB
    rw [ht] at hP
    have hD := hD.weaken (fun _ _ _ h9 => hFc _ h9)
    exact W.iret (v := r5) hx hb hr (fun t ht hW => ⟨⟨r5, s4, rfl, hw, by rw [ht]; exact hP, va_K.moved hW.alike hK, hD⟩, hS.F ht⟩) hS.2.2 dM_answer_26
  · have hw := hw.2 c3
    refine lv_aload_n hx hb dM_answer_12 rfl (lv_at hl 0 rfl) ?_
    refine va_get (D := D) (ci := 5) (v := .ref (ad 16 0)) (C := RM) (T := TM) (N := 26) hx hb hts inM hown hK hP 0 gM_0 rfl 22 (by decide) (hts _ tw_613) (fun _ h9 => h9) rfl dM_answer_13 ?_
    refine lv_iload_n hx hb dM_answer_16 rfl (lv_at hl 1 rfl) ?_
    obtain ⟨hin6, hw⟩ := hw
    refine va_iald hx hb hK hP 16 0 gM_16 rfl hin6 dM_answer_17 ?_
    refine lv_goto (tgt := 26) hx hb dM_answer_18 (by decide) ?_
    exact W.iret (v := ((mA s1 15) (a0).toNatClampNeg)) hx hb hr (fun t ht hW => ⟨⟨((mA s1 15) (a0).toNatClampNeg), s1, rfl, hw, by rw [ht]; exact hP, va_K.moved hW.alike hK, hD⟩, hS.F ht⟩) hS.2.2 dM_answer_26
theorem dM_answerAt_0 : decode cM_answerAt 0 = .ok (.aload_n 0, 1) := by decide +kernel
theorem dM_answerAt_1 : decode cM_answerAt 1 = .ok (.iconst 0, 1) := by decide +kernel
theorem dM_answerAt_2 : decode cM_answerAt 2 = .ok (.putfield 68, 3) := by decide +kernel
theorem dM_answerAt_5 : decode cM_answerAt 5 = .ok (.iload_n 1, 1) := by decide +kernel
theorem dM_answerAt_6 : decode cM_answerAt 6 = .ok (.invokestatic 115, 3) := by decide +kernel
theorem dM_answerAt_9 : decode cM_answerAt 9 = .ok (.ifCond .eq 34, 3) := by decide +kernel
theorem dM_answerAt_12 : decode cM_answerAt 12 = .ok (.iload_n 2, 1) := by decide +kernel
theorem dM_answerAt_13 : decode cM_answerAt 13 = .ok (.iconst 0, 1) := by decide +kernel
theorem dM_answerAt_14 : decode cM_answerAt 14 = .ok (.aload_n 0, 1) := by decide +kernel
theorem dM_answerAt_15 : decode cM_answerAt 15 = .ok (.getfield 56, 3) := by decide +kernel
theorem dM_answerAt_18 : decode cM_answerAt 18 = .ok (.iload_n 1, 1) := by decide +kernel
theorem dM_answerAt_19 : decode cM_answerAt 19 = .ok (.iaload, 1) := by decide +kernel
theorem dM_answerAt_20 : decode cM_answerAt 20 = .ok (.iconst 1, 1) := by decide +kernel
theorem dM_answerAt_21 : decode cM_answerAt 21 = .ok (.isub, 1) := by decide +kernel
theorem dM_answerAt_22 : decode cM_answerAt 22 = .ok (.invokestatic 72, 3) := by decide +kernel
theorem dM_answerAt_25 : decode cM_answerAt 25 = .ok (.ifCond .eq 18, 3) := by decide +kernel
theorem dM_answerAt_28 : decode cM_answerAt 28 = .ok (.aload_n 0, 1) := by decide +kernel
theorem dM_answerAt_29 : decode cM_answerAt 29 = .ok (.getfield 59, 3) := by decide +kernel
theorem dM_answerAt_32 : decode cM_answerAt 32 = .ok (.sipush 134, 3) := by decide +kernel
theorem dM_answerAt_35 : decode cM_answerAt 35 = .ok (.iload_n 1, 1) := by decide +kernel
theorem dM_answerAt_36 : decode cM_answerAt 36 = .ok (.imul, 1) := by decide +kernel
theorem dM_answerAt_37 : decode cM_answerAt 37 = .ok (.iload_n 2, 1) := by decide +kernel
theorem dM_answerAt_38 : decode cM_answerAt 38 = .ok (.iadd, 1) := by decide +kernel
theorem dM_answerAt_39 : decode cM_answerAt 39 = .ok (.iaload, 1) := by decide +kernel
theorem dM_answerAt_40 : decode cM_answerAt 40 = .ok (.goto 8, 3) := by decide +kernel
theorem dM_answerAt_43 : decode cM_answerAt 43 = .ok (.aload_n 0, 1) := by decide +kernel
theorem dM_answerAt_44 : decode cM_answerAt 44 = .ok (.iconst 1, 1) := by decide +kernel
theorem dM_answerAt_45 : decode cM_answerAt 45 = .ok (.invokevirtual 76, 3) := by decide +kernel
theorem dM_answerAt_48 : decode cM_answerAt 48 = .ok (.ireturn, 1) := by decide +kernel
def wp_m_answerAt (post : Int32 → Sm → Prop) (σ : Sm) (a0 : Int32) (a1 : Int32) : Prop := wp_m_isClient (fun r2 s1 => (((r2 = 0) → wp_m_fail (fun r5 s4 => post r5 s4) s1 1) ∧ (¬ (r2 = 0) → (vp_in a0 8 ∧ wp_m_within (fun r8 s7 => (((r8 = 0) → wp_m_fail (fun r11 s10 => post r11 s10) s7 1) ∧ (¬ (r8 = 0) → (vp_in ((134 * a0) + a1) 1072 ∧ post ((mA s7 16) ((134 * a0) + a1).toNatClampNeg) s7)))) s1 a1 0 (((mA s1 15) (a0).toNatClampNeg) - 1))))) (vG 0 0 σ) a0
set_option maxHeartbeats 4000000 in
set_option maxRecDepth 100000 in
theorem c_m_answerAt (l : Launch) (D : va_G) (ca : Nat → ClassId) (ad : Nat → Nat → Nat) (σ : Sm) (a0 : Int32) (a1 : Int32) (sz : Nat) (post : Int32 → Sm → Prop) (hw : wp_m_answerAt post σ a0 a1) : Met l yM_answerAt wsM_answerAt ({ frames := 2, cells := 0, slots := 0, locals := 42 }) (va_Pc [.ref (ad 0 0), .int a0, .int a1] (preM D ca ad σ sz)) (va_Qi post (atM D ca ad (va_A (wM ca ad σ) sz)) (va_A (wM ca ad σ) sz)) 0 0 (va_A (wM ca ad σ) sz) := by
  refine Met.ofW (cc := cM_answerAt) (maxL := 3) (ret := (some .int)) (by decide) rfl ?_
  intro p e s m args below meth c s₁ B hml hv
  obtain ⟨rfl, hsz, hP, hK, hD0, hE⟩ := hv
  have hx := B.exec
  have hb := B.bytes
  have hr := B.returns
  have hts : ∀ w ∈ tbG, w.before _ s = true := fun w h => atoms_spec (ws := wsM_answerAt) B.pre w (List.mem_cons_of_mem _ h)
  have hown : s.vm.findClass RM = some m.cls := findClass_of_methodNamed B.named
  have hlocks := B.notSynchronized
  subst hsz
  have hD := hD0.self (sz := s.heap.size)
  generalize hAe : va_A (wM ca ad σ) s.heap.size = A at hD hE ⊢
  have hA : ∀ q : Nat, s.heap.size ≤ q → A q := fun q h => by rw [← hAe]; exact Or.inr h
  clear hAe
  have hS : va_S A s.heap s.heap [] := va_S.rf
  have hl := lv_entry ([.ref (ad 0 0), .int a0, .int a1]) (n := 3) (Nat.le_of_ble_eq_true rfl)
  rw [lg_entry_eq]
  generalize (lg_sl ([.ref (ad 0 0), .int a0, .int a1]) ++ List.replicate (3 - (lg_sl ([.ref (ad 0 0), .int a0, .int a1])).length) Slot.unset).toArray = ls at hl ⊢
  have hl : lv_has ls 3 [(0, .ref (ad 0 0)), (1, .int a0), (2, .int a1)] := hl
  unfold wp_m_answerAt at hw
  have hP : va_P D clX (wM ca ad σ) s.heap := hP
  refine lv_aload_n hx hb dM_answerAt_0 rfl (lv_at hl 0 rfl) ?_
  refine lv_iconst (v := 0) hx hb dM_answerAt_1 (by decide) ?_
  refine va_put (D := D) (ci := 5) (v := .int 0) (ty := .int) (C := RM) (T := TM) (N := 26) hx hb hts inM tyM tyM_ok nmM hown hK hP hD hS 0 gM_0 rfl 0 (by decide) (hts _ tw_591) (fun _ h9 => h9) rfl (by decide +kernel) rfl rfl (Nat.le_of_ble_eq_true rfl) dM_answerAt_2 (fun H locs hP hD hS => ?_)
  rw [sM_0_0] at hP hD
  refine lv_iload_n hx hb dM_answerAt_5 rfl (lv_at hl 1 rfl) ?_
  have hFc := px_free hD hS hA
  refine va_calli (va_runS (As := [.int a0]) (rest := []) ⟨hx, hb, hml, hown, hts⟩ (c_m_isClient l D ca ad (vG 0 0 σ) a0 _ _ hw) (va_cwS 1 hts (gS tw_691 tw_692 tw_7 tw_693) rfl rfl rfl (by decide +kernel) ⟨Nat.le_of_ble_eq_true rfl, Nat.le_of_ble_eq_true rfl⟩) ⟨pm_blind, fun U hU hW => pm_pre hP hK hD hE hS hFc hU hW⟩ rfl rfl hl.1 rfl (lv_room (Nat.le_of_ble_eq_true rfl)) dM_answerAt_6 ⟨Nat.le_of_ble_eq_true rfl, Nat.le_of_ble_eq_true rfl⟩) hS (fun q _ h => hFc q h) hFc (fun r2 s1 t H locs ht hvm hw hB _ _ hS => ?_)
  obtain ⟨hP, -, hD⟩ := hB
  rw [ht] at hP
  have hD := hD.weaken (fun _ _ _ h9 => hFc _ h9)
  refine lv_if_eq (tgt := 43) hx hb dM_answerAt_9 (by decide) (fun c3 => ?_) (fun c3 => ?_)
  · have hw := hw.1 c3
    refine lv_aload_n hx hb dM_answerAt_43 rfl (lv_at hl 0 rfl) ?_
    refine lv_iconst (v := 1) hx hb dM_answerAt_44 (by decide) ?_
    have hFc := px_free hD hS hA
    refine va_calli (va_runV (As := [.int 1]) (rest := []) ⟨hx, hb, hml, hown, hts⟩ (c_m_fail l D ca ad s1 1 _ _ hw) (cwV 1 hts (gV tw_682 tw_684 tp_18 tw_7 tw_685) rfl rfl rfl (by decide +kernel) ⟨Nat.le_of_ble_eq_true rfl, Nat.le_of_ble_eq_true rfl⟩) ⟨pm_blind, (px_recv hK hP gM_0 rfl), fun U hU hW => pm_pre hP hK hD hE hS hFc hU hW⟩ rfl rfl hl.1 rfl (lv_room (Nat.le_of_ble_eq_true rfl)) dM_answerAt_45 ⟨Nat.le_of_ble_eq_true rfl, Nat.le_of_ble_eq_true rfl⟩) hS (fun q _ h => hFc q h) hFc (fun r5 s4 t H locs ht hvm hw hB _ _ hS => ?_)
    obtain ⟨hP, -, hD⟩ := hB
    rw [ht] at hP
    have hD := hD.weaken (fun _ _ _ h9 => hFc _ h9)
    exact W.iret (v := r5) hx hb hr (fun t ht hW => ⟨⟨r5, s4, rfl, hw, by rw [ht]; exact hP, va_K.moved hW.alike hK, hD⟩, hS.F ht⟩) hS.2.2 dM_answerAt_48
  · have hw := hw.2 c3
    refine lv_iload_n hx hb dM_answerAt_12 rfl (lv_at hl 2 rfl) ?_
    refine lv_iconst (v := 0) hx hb dM_answerAt_13 (by decide) ?_
    refine lv_aload_n hx hb dM_answerAt_14 rfl (lv_at hl 0 rfl) ?_
    refine va_get (D := D) (ci := 5) (v := .ref (ad 16 0)) (C := RM) (T := TM) (N := 26) hx hb hts inM hown hK hP 0 gM_0 rfl 22 (by decide) (hts _ tw_613) (fun _ h9 => h9) rfl dM_answerAt_15 ?_
    refine lv_iload_n hx hb dM_answerAt_18 rfl (lv_at hl 1 rfl) ?_
    obtain ⟨hin6, hw⟩ := hw
    refine va_iald hx hb hK hP 16 0 gM_16 rfl hin6 dM_answerAt_19 ?_
    refine lv_iconst (v := 1) hx hb dM_answerAt_20 (by decide) ?_
    refine lv_isub hx hb dM_answerAt_21 ?_
    have hFc := px_free hD hS hA
    refine va_calli (va_runS (As := [.int a1, .int 0, .int (((mA s1 15) (a0).toNatClampNeg) - 1)]) (rest := []) ⟨hx, hb, hml, hown, hts⟩ (c_m_within l D ca ad s1 a1 0 (((mA s1 15) (a0).toNatClampNeg) - 1) _ _ hw) (va_cwS 3 hts (gS tw_679 tw_680 tw_7 tw_681) rfl rfl rfl (by decide +kernel) ⟨Nat.le_of_ble_eq_true rfl, Nat.le_of_ble_eq_true rfl⟩) ⟨pm_blind, fun U hU hW => pm_pre hP hK hD hE hS hFc hU hW⟩ rfl rfl hl.1 rfl (lv_room (Nat.le_of_ble_eq_true rfl)) dM_answerAt_22 ⟨Nat.le_of_ble_eq_true rfl, Nat.le_of_ble_eq_true rfl⟩) hS (fun q _ h => hFc q h) hFc (fun r8 s7 t H locs ht hvm hw hB _ _ hS => ?_)
    obtain ⟨hP, -, hD⟩ := hB
    rw [ht] at hP
    have hD := hD.weaken (fun _ _ _ h9 => hFc _ h9)
    refine lv_if_eq (tgt := 43) hx hb dM_answerAt_25 (by decide) (fun c9 => ?_) (fun c9 => ?_)
    · have hw := hw.1 c9
      refine lv_aload_n hx hb dM_answerAt_43 rfl (lv_at hl 0 rfl) ?_
      refine lv_iconst (v := 1) hx hb dM_answerAt_44 (by decide) ?_
      have hFc := px_free hD hS hA
      refine va_calli (va_runV (As := [.int 1]) (rest := []) ⟨hx, hb, hml, hown, hts⟩ (c_m_fail l D ca ad s7 1 _ _ hw) (cwV 1 hts (gV tw_682 tw_684 tp_18 tw_7 tw_685) rfl rfl rfl (by decide +kernel) ⟨Nat.le_of_ble_eq_true rfl, Nat.le_of_ble_eq_true rfl⟩) ⟨pm_blind, (px_recv hK hP gM_0 rfl), fun U hU hW => pm_pre hP hK hD hE hS hFc hU hW⟩ rfl rfl hl.1 rfl (lv_room (Nat.le_of_ble_eq_true rfl)) dM_answerAt_45 ⟨Nat.le_of_ble_eq_true rfl, Nat.le_of_ble_eq_true rfl⟩) hS (fun q _ h => hFc q h) hFc (fun r11 s10 t H locs ht hvm hw hB _ _ hS => ?_)
      obtain ⟨hP, -, hD⟩ := hB
      rw [ht] at hP
      have hD := hD.weaken (fun _ _ _ h9 => hFc _ h9)
      exact W.iret (v := r11) hx hb hr (fun t ht hW => ⟨⟨r11, s10, rfl, hw, by rw [ht]; exact hP, va_K.moved hW.alike hK, hD⟩, hS.F ht⟩) hS.2.2 dM_answerAt_48
    · have hw := hw.2 c9
      refine lv_aload_n hx hb dM_answerAt_28 rfl (lv_at hl 0 rfl) ?_
      refine va_get (D := D) (ci := 5) (v := .ref (ad 17 0)) (C := RM) (T := TM) (N := 26) hx hb hts inM hown hK hP 0 gM_0 rfl 23 (by decide) (hts _ tw_614) (fun _ h9 => h9) rfl dM_answerAt_29 ?_
      refine lv_sipush (v := 134) hx hb dM_answerAt_32 (by decide) ?_
      refine lv_iload_n hx hb dM_answerAt_35 rfl (lv_at hl 1 rfl) ?_
      refine lv_imul hx hb dM_answerAt_36 ?_
      refine lv_iload_n hx hb dM_answerAt_37 rfl (lv_at hl 2 rfl) ?_
      refine lv_iadd hx hb dM_answerAt_38 ?_
      obtain ⟨hin12, hw⟩ := hw
      refine va_iald hx hb hK hP 17 0 gM_17 rfl hin12 dM_answerAt_39 ?_
      refine lv_goto (tgt := 48) hx hb dM_answerAt_40 (by decide) ?_
      exact W.iret (v := ((mA s7 16) ((134 * a0) + a1).toNatClampNeg)) hx hb hr (fun t ht hW => ⟨⟨((mA s7 16) ((134 * a0) + a1).toNatClampNeg), s7, rfl, hw, by rw [ht]; exact hP, va_K.moved hW.alike hK, hD⟩, hS.F ht⟩) hS.2.2 dM_answerAt_48
theorem dM_history_0 : decode cM_history 0 = .ok (.aload_n 0, 1) := by decide +kernel
theorem dM_history_1 : decode cM_history 1 = .ok (.iconst 0, 1) := by decide +kernel
theorem dM_history_2 : decode cM_history 2 = .ok (.putfield 68, 3) := by decide +kernel
theorem dM_history_5 : decode cM_history 5 = .ok (.iload_n 1, 1) := by decide +kernel
theorem dM_history_6 : decode cM_history 6 = .ok (.iconst 0, 1) := by decide +kernel
theorem dM_history_7 : decode cM_history 7 = .ok (.aload_n 0, 1) := by decide +kernel
theorem dM_history_8 : decode cM_history 8 = .ok (.getfield 123, 3) := by decide +kernel
theorem dM_history_11 : decode cM_history 11 = .ok (.iconst 1, 1) := by decide +kernel
theorem dM_history_12 : decode cM_history 12 = .ok (.isub, 1) := by decide +kernel
theorem dM_history_13 : decode cM_history 13 = .ok (.invokestatic 72, 3) := by decide +kernel
theorem dM_history_16 : decode cM_history 16 = .ok (.ifCond .eq 26, 3) := by decide +kernel
theorem dM_history_19 : decode cM_history 19 = .ok (.iload_n 2, 1) := by decide +kernel
theorem dM_history_20 : decode cM_history 20 = .ok (.iconst 0, 1) := by decide +kernel
theorem dM_history_21 : decode cM_history 21 = .ok (.iconst 5, 1) := by decide +kernel
theorem dM_history_22 : decode cM_history 22 = .ok (.invokestatic 72, 3) := by decide +kernel
theorem dM_history_25 : decode cM_history 25 = .ok (.ifCond .eq 17, 3) := by decide +kernel
theorem dM_history_28 : decode cM_history 28 = .ok (.aload_n 0, 1) := by decide +kernel
theorem dM_history_29 : decode cM_history 29 = .ok (.getfield 65, 3) := by decide +kernel
theorem dM_history_32 : decode cM_history 32 = .ok (.bipush 6, 2) := by decide +kernel
theorem dM_history_34 : decode cM_history 34 = .ok (.iload_n 1, 1) := by decide +kernel
theorem dM_history_35 : decode cM_history 35 = .ok (.imul, 1) := by decide +kernel
theorem dM_history_36 : decode cM_history 36 = .ok (.iload_n 2, 1) := by decide +kernel
theorem dM_history_37 : decode cM_history 37 = .ok (.iadd, 1) := by decide +kernel
theorem dM_history_38 : decode cM_history 38 = .ok (.iaload, 1) := by decide +kernel
theorem dM_history_39 : decode cM_history 39 = .ok (.goto 8, 3) := by decide +kernel
theorem dM_history_42 : decode cM_history 42 = .ok (.aload_n 0, 1) := by decide +kernel
theorem dM_history_43 : decode cM_history 43 = .ok (.iconst 1, 1) := by decide +kernel
theorem dM_history_44 : decode cM_history 44 = .ok (.invokevirtual 76, 3) := by decide +kernel
theorem dM_history_47 : decode cM_history 47 = .ok (.ireturn, 1) := by decide +kernel
def wp_m_history (post : Int32 → Sm → Prop) (σ : Sm) (a0 : Int32) (a1 : Int32) : Prop := wp_m_within (fun r2 s1 => (((r2 = 0) → wp_m_fail (fun r5 s4 => post r5 s4) s1 1) ∧ (¬ (r2 = 0) → wp_m_within (fun r7 s6 => (((r7 = 0) → wp_m_fail (fun r10 s9 => post r10 s9) s6 1) ∧ (¬ (r7 = 0) → (vp_in ((6 * a0) + a1) 6144 ∧ post ((mA s6 18) ((6 * a0) + a1).toNatClampNeg) s6)))) s1 a1 0 5))) (vG 0 0 σ) a0 0 ((mG σ 5) - 1)
set_option maxHeartbeats 4000000 in
set_option maxRecDepth 100000 in
theorem c_m_history (l : Launch) (D : va_G) (ca : Nat → ClassId) (ad : Nat → Nat → Nat) (σ : Sm) (a0 : Int32) (a1 : Int32) (sz : Nat) (post : Int32 → Sm → Prop) (hw : wp_m_history post σ a0 a1) : Met l yM_history wsM_history ({ frames := 1, cells := 0, slots := 0, locals := 22 }) (va_Pc [.ref (ad 0 0), .int a0, .int a1] (preM D ca ad σ sz)) (va_Qi post (atM D ca ad (va_A (wM ca ad σ) sz)) (va_A (wM ca ad σ) sz)) 0 0 (va_A (wM ca ad σ) sz) := by
  refine Met.ofW (cc := cM_history) (maxL := 3) (ret := (some .int)) (by decide) rfl ?_
  intro p e s m args below meth c s₁ B hml hv
  obtain ⟨rfl, hsz, hP, hK, hD0, hE⟩ := hv
  have hx := B.exec
  have hb := B.bytes
  have hr := B.returns
  have hts : ∀ w ∈ tbG, w.before _ s = true := fun w h => atoms_spec (ws := wsM_history) B.pre w (List.mem_cons_of_mem _ h)
  have hown : s.vm.findClass RM = some m.cls := findClass_of_methodNamed B.named
  have hlocks := B.notSynchronized
  subst hsz
  have hD := hD0.self (sz := s.heap.size)
  generalize hAe : va_A (wM ca ad σ) s.heap.size = A at hD hE ⊢
  have hA : ∀ q : Nat, s.heap.size ≤ q → A q := fun q h => by rw [← hAe]; exact Or.inr h
  clear hAe
  have hS : va_S A s.heap s.heap [] := va_S.rf
  have hl := lv_entry ([.ref (ad 0 0), .int a0, .int a1]) (n := 3) (Nat.le_of_ble_eq_true rfl)
  rw [lg_entry_eq]
  generalize (lg_sl ([.ref (ad 0 0), .int a0, .int a1]) ++ List.replicate (3 - (lg_sl ([.ref (ad 0 0), .int a0, .int a1])).length) Slot.unset).toArray = ls at hl ⊢
  have hl : lv_has ls 3 [(0, .ref (ad 0 0)), (1, .int a0), (2, .int a1)] := hl
  unfold wp_m_history at hw
  have hP : va_P D clX (wM ca ad σ) s.heap := hP
  refine lv_aload_n hx hb dM_history_0 rfl (lv_at hl 0 rfl) ?_
  refine lv_iconst (v := 0) hx hb dM_history_1 (by decide) ?_
  refine va_put (D := D) (ci := 5) (v := .int 0) (ty := .int) (C := RM) (T := TM) (N := 26) hx hb hts inM tyM tyM_ok nmM hown hK hP hD hS 0 gM_0 rfl 0 (by decide) (hts _ tw_591) (fun _ h9 => h9) rfl (by decide +kernel) rfl rfl (Nat.le_of_ble_eq_true rfl) dM_history_2 (fun H locs hP hD hS => ?_)
  rw [sM_0_0] at hP hD
  refine lv_iload_n hx hb dM_history_5 rfl (lv_at hl 1 rfl) ?_
  refine lv_iconst (v := 0) hx hb dM_history_6 (by decide) ?_
  refine lv_aload_n hx hb dM_history_7 rfl (lv_at hl 0 rfl) ?_
  refine va_get (D := D) (ci := 5) (v := .int (mG σ 5)) (C := RM) (T := TM) (N := 26) hx hb hts inM hown hK hP 0 gM_0 rfl 5 (by decide) (hts _ tw_596) (fun _ h9 => h9) rfl dM_history_8 ?_
  refine lv_iconst (v := 1) hx hb dM_history_11 (by decide) ?_
  refine lv_isub hx hb dM_history_12 ?_
  have hFc := px_free hD hS hA
  refine va_calli (va_runS (As := [.int a0, .int 0, .int ((mG σ 5) - 1)]) (rest := []) ⟨hx, hb, hml, hown, hts⟩ (c_m_within l D ca ad (vG 0 0 σ) a0 0 ((mG σ 5) - 1) _ _ hw) (va_cwS 3 hts (gS tw_679 tw_680 tw_7 tw_681) rfl rfl rfl (by decide +kernel) ⟨Nat.le_of_ble_eq_true rfl, Nat.le_of_ble_eq_true rfl⟩) ⟨pm_blind, fun U hU hW => pm_pre hP hK hD hE hS hFc hU hW⟩ rfl rfl hl.1 rfl (lv_room (Nat.le_of_ble_eq_true rfl)) dM_history_13 ⟨Nat.le_of_ble_eq_true rfl, Nat.le_of_ble_eq_true rfl⟩) hS (fun q _ h => hFc q h) hFc (fun r2 s1 t H locs ht hvm hw hB _ _ hS => ?_)
  obtain ⟨hP, -, hD⟩ := hB
  rw [ht] at hP
  have hD := hD.weaken (fun _ _ _ h9 => hFc _ h9)
  refine lv_if_eq (tgt := 42) hx hb dM_history_16 (by decide) (fun c3 => ?_) (fun c3 => ?_)
  · have hw := hw.1 c3
    refine lv_aload_n hx hb dM_history_42 rfl (lv_at hl 0 rfl) ?_
    refine lv_iconst (v := 1) hx hb dM_history_43 (by decide) ?_
    have hFc := px_free hD hS hA
    refine va_calli (va_runV (As := [.int 1]) (rest := []) ⟨hx, hb, hml, hown, hts⟩ (c_m_fail l D ca ad s1 1 _ _ hw) (cwV 1 hts (gV tw_682 tw_684 tp_18 tw_7 tw_685) rfl rfl rfl (by decide +kernel) ⟨Nat.le_of_ble_eq_true rfl, Nat.le_of_ble_eq_true rfl⟩) ⟨pm_blind, (px_recv hK hP gM_0 rfl), fun U hU hW => pm_pre hP hK hD hE hS hFc hU hW⟩ rfl rfl hl.1 rfl (lv_room (Nat.le_of_ble_eq_true rfl)) dM_history_44 ⟨Nat.le_of_ble_eq_true rfl, Nat.le_of_ble_eq_true rfl⟩) hS (fun q _ h => hFc q h) hFc (fun r5 s4 t H locs ht hvm hw hB _ _ hS => ?_)
    obtain ⟨hP, -, hD⟩ := hB
    rw [ht] at hP
    have hD := hD.weaken (fun _ _ _ h9 => hFc _ h9)
    exact W.iret (v := r5) hx hb hr (fun t ht hW => ⟨⟨r5, s4, rfl, hw, by rw [ht]; exact hP, va_K.moved hW.alike hK, hD⟩, hS.F ht⟩) hS.2.2 dM_history_47
  · have hw := hw.2 c3
    refine lv_iload_n hx hb dM_history_19 rfl (lv_at hl 2 rfl) ?_
    refine lv_iconst (v := 0) hx hb dM_history_20 (by decide) ?_
    refine lv_iconst (v := 5) hx hb dM_history_21 (by decide) ?_
    have hFc := px_free hD hS hA
    refine va_calli (va_runS (As := [.int a1, .int 0, .int 5]) (rest := []) ⟨hx, hb, hml, hown, hts⟩ (c_m_within l D ca ad s1 a1 0 5 _ _ hw) (va_cwS 3 hts (gS tw_679 tw_680 tw_7 tw_681) rfl rfl rfl (by decide +kernel) ⟨Nat.le_of_ble_eq_true rfl, Nat.le_of_ble_eq_true rfl⟩) ⟨pm_blind, fun U hU hW => pm_pre hP hK hD hE hS hFc hU hW⟩ rfl rfl hl.1 rfl (lv_room (Nat.le_of_ble_eq_true rfl)) dM_history_22 ⟨Nat.le_of_ble_eq_true rfl, Nat.le_of_ble_eq_true rfl⟩) hS (fun q _ h => hFc q h) hFc (fun r7 s6 t H locs ht hvm hw hB _ _ hS => ?_)
    obtain ⟨hP, -, hD⟩ := hB
    rw [ht] at hP
    have hD := hD.weaken (fun _ _ _ h9 => hFc _ h9)
    refine lv_if_eq (tgt := 42) hx hb dM_history_25 (by decide) (fun c8 => ?_) (fun c8 => ?_)
    · have hw := hw.1 c8
      refine lv_aload_n hx hb dM_history_42 rfl (lv_at hl 0 rfl) ?_
      refine lv_iconst (v := 1) hx hb dM_history_43 (by decide) ?_
      have hFc := px_free hD hS hA
      refine va_calli (va_runV (As := [.int 1]) (rest := []) ⟨hx, hb, hml, hown, hts⟩ (c_m_fail l D ca ad s6 1 _ _ hw) (cwV 1 hts (gV tw_682 tw_684 tp_18 tw_7 tw_685) rfl rfl rfl (by decide +kernel) ⟨Nat.le_of_ble_eq_true rfl, Nat.le_of_ble_eq_true rfl⟩) ⟨pm_blind, (px_recv hK hP gM_0 rfl), fun U hU hW => pm_pre hP hK hD hE hS hFc hU hW⟩ rfl rfl hl.1 rfl (lv_room (Nat.le_of_ble_eq_true rfl)) dM_history_44 ⟨Nat.le_of_ble_eq_true rfl, Nat.le_of_ble_eq_true rfl⟩) hS (fun q _ h => hFc q h) hFc (fun r10 s9 t H locs ht hvm hw hB _ _ hS => ?_)
      obtain ⟨hP, -, hD⟩ := hB
      rw [ht] at hP
      have hD := hD.weaken (fun _ _ _ h9 => hFc _ h9)
      exact W.iret (v := r10) hx hb hr (fun t ht hW => ⟨⟨r10, s9, rfl, hw, by rw [ht]; exact hP, va_K.moved hW.alike hK, hD⟩, hS.F ht⟩) hS.2.2 dM_history_47
    · have hw := hw.2 c8
      refine lv_aload_n hx hb dM_history_28 rfl (lv_at hl 0 rfl) ?_
      refine va_get (D := D) (ci := 5) (v := .ref (ad 19 0)) (C := RM) (T := TM) (N := 26) hx hb hts inM hown hK hP 0 gM_0 rfl 25 (by decide) (hts _ tw_616) (fun _ h9 => h9) rfl dM_history_29 ?_
      refine lv_bipush (v := 6) hx hb dM_history_32 (by decide) ?_
      refine lv_iload_n hx hb dM_history_34 rfl (lv_at hl 1 rfl) ?_
      refine lv_imul hx hb dM_history_35 ?_
      refine lv_iload_n hx hb dM_history_36 rfl (lv_at hl 2 rfl) ?_
      refine lv_iadd hx hb dM_history_37 ?_
      obtain ⟨hin11, hw⟩ := hw
      refine va_iald hx hb hK hP 19 0 gM_19 rfl hin11 dM_history_38 ?_
      refine lv_goto (tgt := 47) hx hb dM_history_39 (by decide) ?_
      exact W.iret (v := ((mA s6 18) ((6 * a0) + a1).toNatClampNeg)) hx hb hr (fun t ht hW => ⟨⟨((mA s6 18) ((6 * a0) + a1).toNatClampNeg), s6, rfl, hw, by rw [ht]; exact hP, va_K.moved hW.alike hK, hD⟩, hS.F ht⟩) hS.2.2 dM_history_47
theorem dM_count_0 : decode cM_count 0 = .ok (.aload_n 0, 1) := by decide +kernel
theorem dM_count_1 : decode cM_count 1 = .ok (.iconst 0, 1) := by decide +kernel
theorem dM_count_2 : decode cM_count 2 = .ok (.putfield 68, 3) := by decide +kernel
theorem dM_count_5 : decode cM_count 5 = .ok (.iload_n 1, 1) := by decide +kernel
theorem dM_count_6 : decode cM_count 6 = .ok (.iconst 0, 1) := by decide +kernel
theorem dM_count_7 : decode cM_count 7 = .ok (.iconst 5, 1) := by decide +kernel
theorem dM_count_8 : decode cM_count 8 = .ok (.invokestatic 72, 3) := by decide +kernel
theorem dM_count_11 : decode cM_count 11 = .ok (.ifCond .ne 5, 3) := by decide +kernel
theorem dM_count_14 : decode cM_count 14 = .ok (.iconst (-1), 1) := by decide +kernel
theorem dM_count_15 : decode cM_count 15 = .ok (.ireturn, 1) := by decide +kernel
theorem dM_count_16 : decode cM_count 16 = .ok (.iload_n 1, 1) := by decide +kernel
theorem dM_count_17 : decode cM_count 17 = .ok (.iconst 4, 1) := by decide +kernel
theorem dM_count_18 : decode cM_count 18 = .ok (.if_icmp .ge 43, 3) := by decide +kernel
theorem dM_count_21 : decode cM_count 21 = .ok (.iload_n 1, 1) := by decide +kernel
theorem dM_count_22 : decode cM_count 22 = .ok (.ifCond .ne 10, 3) := by decide +kernel
theorem dM_count_25 : decode cM_count 25 = .ok (.aload_n 0, 1) := by decide +kernel
theorem dM_count_26 : decode cM_count 26 = .ok (.getfield 88, 3) := by decide +kernel
theorem dM_count_29 : decode cM_count 29 = .ok (.goto 31, 3) := by decide +kernel
theorem dM_count_32 : decode cM_count 32 = .ok (.iload_n 1, 1) := by decide +kernel
theorem dM_count_33 : decode cM_count 33 = .ok (.iconst 1, 1) := by decide +kernel
theorem dM_count_34 : decode cM_count 34 = .ok (.if_icmp .ne 10, 3) := by decide +kernel
theorem dM_count_37 : decode cM_count 37 = .ok (.aload_n 0, 1) := by decide +kernel
theorem dM_count_38 : decode cM_count 38 = .ok (.getfield 123, 3) := by decide +kernel
theorem dM_count_41 : decode cM_count 41 = .ok (.goto 19, 3) := by decide +kernel
theorem dM_count_44 : decode cM_count 44 = .ok (.iload_n 1, 1) := by decide +kernel
theorem dM_count_45 : decode cM_count 45 = .ok (.iconst 2, 1) := by decide +kernel
theorem dM_count_46 : decode cM_count 46 = .ok (.if_icmp .ne 10, 3) := by decide +kernel
theorem dM_count_49 : decode cM_count 49 = .ok (.aload_n 0, 1) := by decide +kernel
theorem dM_count_50 : decode cM_count 50 = .ok (.getfield 91, 3) := by decide +kernel
theorem dM_count_53 : decode cM_count 53 = .ok (.goto 7, 3) := by decide +kernel
theorem dM_count_56 : decode cM_count 56 = .ok (.aload_n 0, 1) := by decide +kernel
theorem dM_count_57 : decode cM_count 57 = .ok (.getfield 105, 3) := by decide +kernel
theorem dM_count_60 : decode cM_count 60 = .ok (.ireturn, 1) := by decide +kernel
theorem dM_count_61 : decode cM_count 61 = .ok (.iconst 0, 1) := by decide +kernel
theorem dM_count_62 : decode cM_count 62 = .ok (.istore_n 2, 1) := by decide +kernel
theorem dM_count_63 : decode cM_count 63 = .ok (.iconst 0, 1) := by decide +kernel
theorem dM_count_64 : decode cM_count 64 = .ok (.istore_n 3, 1) := by decide +kernel
theorem dM_count_65 : decode cM_count 65 = .ok (.iload_n 3, 1) := by decide +kernel
theorem dM_count_66 : decode cM_count 66 = .ok (.bipush 8, 2) := by decide +kernel
theorem dM_count_68 : decode cM_count 68 = .ok (.if_icmp .ge 26, 3) := by decide +kernel
theorem dM_count_71 : decode cM_count 71 = .ok (.iload_n 2, 1) := by decide +kernel
theorem dM_count_72 : decode cM_count 72 = .ok (.aload_n 0, 1) := by decide +kernel
theorem dM_count_73 : decode cM_count 73 = .ok (.getfield 13, 3) := by decide +kernel
theorem dM_count_76 : decode cM_count 76 = .ok (.iload_n 3, 1) := by decide +kernel
theorem dM_count_77 : decode cM_count 77 = .ok (.baload, 1) := by decide +kernel
theorem dM_count_78 : decode cM_count 78 = .ok (.ifCond .eq 7, 3) := by decide +kernel
theorem dM_count_81 : decode cM_count 81 = .ok (.iconst 1, 1) := by decide +kernel
theorem dM_count_82 : decode cM_count 82 = .ok (.goto 4, 3) := by decide +kernel
theorem dM_count_85 : decode cM_count 85 = .ok (.iconst 0, 1) := by decide +kernel
theorem dM_count_86 : decode cM_count 86 = .ok (.iadd, 1) := by decide +kernel
theorem dM_count_87 : decode cM_count 87 = .ok (.istore_n 2, 1) := by decide +kernel
theorem dM_count_88 : decode cM_count 88 = .ok (.iinc 3 1, 3) := by decide +kernel
theorem dM_count_91 : decode cM_count 91 = .ok (.goto (-26), 3) := by decide +kernel
theorem dM_count_94 : decode cM_count 94 = .ok (.iload_n 1, 1) := by decide +kernel
theorem dM_count_95 : decode cM_count 95 = .ok (.iconst 4, 1) := by decide +kernel
theorem dM_count_96 : decode cM_count 96 = .ok (.if_icmp .ne 7, 3) := by decide +kernel
theorem dM_count_99 : decode cM_count 99 = .ok (.iload_n 2, 1) := by decide +kernel
theorem dM_count_100 : decode cM_count 100 = .ok (.goto 7, 3) := by decide +kernel
theorem dM_count_103 : decode cM_count 103 = .ok (.aload_n 0, 1) := by decide +kernel
theorem dM_count_104 : decode cM_count 104 = .ok (.getfield 80, 3) := by decide +kernel
theorem dM_count_107 : decode cM_count 107 = .ok (.ireturn, 1) := by decide +kernel
def wpl_m_count_L65 : Nat → (Int32 → Sm → Prop) → Sm → Int32 → Int32 → Int32 → Prop
  | 0, _, _, _, _, _ => False
  | n + 1, post, σ, x1, x2, x3 => (((8 ≤ x3) → ((¬ (x1 = 4) → post (mG σ 6) σ) ∧ ((x1 = 4) → post x2 σ))) ∧ (¬ (8 ≤ x3) → (vp_in x3 8 ∧ (((((mA σ 1) (x3).toNatClampNeg) = 0) → wpl_m_count_L65 n post σ x1 (x2 + 0) (x3 + 1)) ∧ (¬ (((mA σ 1) (x3).toNatClampNeg) = 0) → wpl_m_count_L65 n post σ x1 (x2 + 1) (x3 + 1))))))
set_option maxHeartbeats 4000000 in
set_option maxRecDepth 100000 in
theorem l_m_count_L65 {p : Program} {l : Launch} {e : Env} {s : State} {m : MethodId} {args : Array Value} {below : List Frame} {meth : Method} {c : Code} {D : va_G} {ca : Nat → ClassId} {ad : Nat → Nat → Nat} {A : Nat → Prop}  {post : Int32 → Sm → Prop} (hx : p.tables.exec = Jvm.exec) (hb : c.code = cM_count) (hr : meth.sig.returnType = (some .int)) (hml : c.maxLocals = 4) (hts : ∀ w ∈ tbG, w.before args s = true) (hown : s.vm.findClass RM = some m.cls) (hlocks : meth.locks = false) (hA : ∀ q : Nat, s.heap.size ≤ q → A q) (hK : va_K D clX (tyM9 ca) s) (hE : eM A s) : ∀ (n : Nat) (σ : Sm) (x1 : Int32) (x2 : Int32) (x3 : Int32), wpl_m_count_L65 n post σ x1 x2 x3 → ∀ (H : Heap) (locs : List Loc), va_P D clX (wM ca ad σ) H → va_D A (wM ca ad σ) → va_S A s.heap H locs → ∀ ls : Array Slot, lv_has ls 4 [(0, .ref (ad 0 0)), (1, .int x1), (2, .int x2), (3, .int x3)] → W p l e (headSpec wsM_count ({ frames := 1, cells := 0, slots := 0, locals := 22 })).room s m args below meth c H locs 0 0 (MQ below (va_Qi post (atM D ca ad A) A) args s 0 0 A) (F0 m 65 ls []) := by
  intro n
  induction n with
  | zero => intro σ x1 x2 x3 hw; exact hw.elim
  | succ n ih =>
    intro σ x1 x2 x3 hw H locs hP hD hS ls hl
    refine lv_iload_n hx hb dM_count_65 rfl (lv_at hl 3 rfl) ?_
    refine lv_bipush (v := 8) hx hb dM_count_66 (by decide) ?_
    refine lv_icmp_ge (tgt := 94) hx hb dM_count_68 (by decide) (fun c8 => ?_) (fun c8 => ?_)
    · have hw := hw.1 c8
      refine lv_iload_n hx hb dM_count_94 rfl (lv_at hl 1 rfl) ?_
      refine lv_iconst (v := 4) hx hb dM_count_95 (by decide) ?_
      refine lv_icmp_ne (tgt := 103) hx hb dM_count_96 (by decide) (fun c9 => ?_) (fun c9 => ?_)
      · have hw := hw.1 c9
        refine lv_aload_n hx hb dM_count_103 rfl (lv_at hl 0 rfl) ?_
        refine va_get (D := D) (ci := 5) (v := .int (mG σ 6)) (C := RM) (T := TM) (N := 26) hx hb hts inM hown hK hP 0 gM_0 rfl 6 (by decide) (hts _ tw_597) (fun _ h9 => h9) rfl dM_count_104 ?_
        exact W.iret (v := (mG σ 6)) hx hb hr (fun t ht hW => ⟨⟨(mG σ 6), σ, rfl, hw, by rw [ht]; exact hP, va_K.moved hW.alike hK, hD⟩, hS.F ht⟩) hS.2.2 dM_count_107
      · have hw := hw.2 c9
        refine lv_iload_n hx hb dM_count_99 rfl (lv_at hl 2 rfl) ?_
        refine lv_goto (tgt := 107) hx hb dM_count_100 (by decide) ?_
        exact W.iret (v := x2) hx hb hr (fun t ht hW => ⟨⟨x2, σ, rfl, hw, by rw [ht]; exact hP, va_K.moved hW.alike hK, hD⟩, hS.F ht⟩) hS.2.2 dM_count_107
    · have hw := hw.2 c8
      refine lv_iload_n hx hb dM_count_71 rfl (lv_at hl 2 rfl) ?_
      refine lv_aload_n hx hb dM_count_72 rfl (lv_at hl 0 rfl) ?_
      refine va_get (D := D) (ci := 5) (v := .ref (ad 2 0)) (C := RM) (T := TM) (N := 26) hx hb hts inM hown hK hP 0 gM_0 rfl 8 (by decide) (hts _ tw_599) (fun _ h9 => h9) rfl dM_count_73 ?_
      refine lv_iload_n hx hb dM_count_76 rfl (lv_at hl 3 rfl) ?_
      obtain ⟨hin10, hw⟩ := hw
      refine va_zald hx hb hK hP 2 1 gM_2 rfl hin10 dM_count_77 ?_
      refine lv_if_eq (tgt := 85) hx hb dM_count_78 (by decide) (fun c11 => ?_) (fun c11 => ?_)
      · have hw := hw.1 c11
        refine lv_iconst (v := 0) hx hb dM_count_85 (by decide) ?_
        refine lv_iadd hx hb dM_count_86 ?_
        refine lv_istore_n (lv' := [(2, .int (x2 + 0)), (0, .ref (ad 0 0)), (1, .int x1), (3, .int x3)]) hx hb dM_count_87 rfl hl (by decide) rfl (fun ls hl => ?_)
        refine lv_iinc (v := x3 + 1) (lv' := [(3, .int (x3 + 1)), (2, .int (x2 + 0)), (0, .ref (ad 0 0)), (1, .int x1)]) hx hb dM_count_88 hl (k := 3) rfl rfl (by decide) rfl (fun ls hl => ?_)
        refine lv_goto (tgt := 65) hx hb dM_count_91 (by decide) ?_
        exact ih σ x1 (x2 + 0) (x3 + 1) hw _ _ hP hD hS ls (lv_sub hl [2, 3, 1, 0] rfl)
      · have hw := hw.2 c11
        refine lv_iconst (v := 1) hx hb dM_count_81 (by decide) ?_
        refine lv_goto (tgt := 86) hx hb dM_count_82 (by decide) ?_
        refine lv_iadd hx hb dM_count_86 ?_
        refine lv_istore_n (lv' := [(2, .int (x2 + 1)), (0, .ref (ad 0 0)), (1, .int x1), (3, .int x3)]) hx hb dM_count_87 rfl hl (by decide) rfl (fun ls hl => ?_)
        refine lv_iinc (v := x3 + 1) (lv' := [(3, .int (x3 + 1)), (2, .int (x2 + 1)), (0, .ref (ad 0 0)), (1, .int x1)]) hx hb dM_count_88 hl (k := 3) rfl rfl (by decide) rfl (fun ls hl => ?_)
        refine lv_goto (tgt := 65) hx hb dM_count_91 (by decide) ?_
        exact ih σ x1 (x2 + 1) (x3 + 1) hw _ _ hP hD hS ls (lv_sub hl [2, 3, 1, 0] rfl)
def wp_m_count (post : Int32 → Sm → Prop) (σ : Sm) (a0 : Int32) : Prop := wp_m_within (fun r2 s1 => ((¬ (r2 = 0) → (((4 ≤ a0) → (∃ n : Nat, wpl_m_count_L65 n post s1 a0 0 0)) ∧ (¬ (4 ≤ a0) → ((¬ (a0 = 0) → ((¬ (a0 = 1) → ((¬ (a0 = 2) → post (mG s1 4) s1) ∧ ((a0 = 2) → post (mG s1 2) s1))) ∧ ((a0 = 1) → post (mG s1 5) s1))) ∧ ((a0 = 0) → post (mG s1 1) s1))))) ∧ ((r2 = 0) → post (-1) s1))) (vG 0 0 σ) a0 0 5
set_option maxHeartbeats 4000000 in
set_option maxRecDepth 100000 in
theorem c_m_count (l : Launch) (D : va_G) (ca : Nat → ClassId) (ad : Nat → Nat → Nat) (σ : Sm) (a0 : Int32) (sz : Nat) (post : Int32 → Sm → Prop) (hw : wp_m_count post σ a0) : Met l yM_count wsM_count ({ frames := 1, cells := 0, slots := 0, locals := 22 }) (va_Pc [.ref (ad 0 0), .int a0] (preM D ca ad σ sz)) (va_Qi post (atM D ca ad (va_A (wM ca ad σ) sz)) (va_A (wM ca ad σ) sz)) 0 0 (va_A (wM ca ad σ) sz) := by
  refine Met.ofW (cc := cM_count) (maxL := 4) (ret := (some .int)) (by decide) rfl ?_
  intro p e s m args below meth c s₁ B hml hv
  obtain ⟨rfl, hsz, hP, hK, hD0, hE⟩ := hv
  have hx := B.exec
  have hb := B.bytes
  have hr := B.returns
  have hts : ∀ w ∈ tbG, w.before _ s = true := fun w h => atoms_spec (ws := wsM_count) B.pre w (List.mem_cons_of_mem _ h)
  have hown : s.vm.findClass RM = some m.cls := findClass_of_methodNamed B.named
  have hlocks := B.notSynchronized
  subst hsz
  have hD := hD0.self (sz := s.heap.size)
  generalize hAe : va_A (wM ca ad σ) s.heap.size = A at hD hE ⊢
  have hA : ∀ q : Nat, s.heap.size ≤ q → A q := fun q h => by rw [← hAe]; exact Or.inr h
  clear hAe
  have hS : va_S A s.heap s.heap [] := va_S.rf
  have hl := lv_entry ([.ref (ad 0 0), .int a0]) (n := 4) (Nat.le_of_ble_eq_true rfl)
  rw [lg_entry_eq]
  generalize (lg_sl ([.ref (ad 0 0), .int a0]) ++ List.replicate (4 - (lg_sl ([.ref (ad 0 0), .int a0])).length) Slot.unset).toArray = ls at hl ⊢
  have hl : lv_has ls 4 [(0, .ref (ad 0 0)), (1, .int a0)] := hl
  unfold wp_m_count at hw
  have hP : va_P D clX (wM ca ad σ) s.heap := hP
  refine lv_aload_n hx hb dM_count_0 rfl (lv_at hl 0 rfl) ?_
  refine lv_iconst (v := 0) hx hb dM_count_1 (by decide) ?_
  refine va_put (D := D) (ci := 5) (v := .int 0) (ty := .int) (C := RM) (T := TM) (N := 26) hx hb hts inM tyM tyM_ok nmM hown hK hP hD hS 0 gM_0 rfl 0 (by decide) (hts _ tw_591) (fun _ h9 => h9) rfl (by decide +kernel) rfl rfl (Nat.le_of_ble_eq_true rfl) dM_count_2 (fun H locs hP hD hS => ?_)
  rw [sM_0_0] at hP hD
  refine lv_iload_n hx hb dM_count_5 rfl (lv_at hl 1 rfl) ?_
  refine lv_iconst (v := 0) hx hb dM_count_6 (by decide) ?_
  refine lv_iconst (v := 5) hx hb dM_count_7 (by decide) ?_
  have hFc := px_free hD hS hA
  refine va_calli (va_runS (As := [.int a0, .int 0, .int 5]) (rest := []) ⟨hx, hb, hml, hown, hts⟩ (c_m_within l D ca ad (vG 0 0 σ) a0 0 5 _ _ hw) (va_cwS 3 hts (gS tw_679 tw_680 tw_7 tw_681) rfl rfl rfl (by decide +kernel) ⟨Nat.le_of_ble_eq_true rfl, Nat.le_of_ble_eq_true rfl⟩) ⟨pm_blind, fun U hU hW => pm_pre hP hK hD hE hS hFc hU hW⟩ rfl rfl hl.1 rfl (lv_room (Nat.le_of_ble_eq_true rfl)) dM_count_8 ⟨Nat.le_of_ble_eq_true rfl, Nat.le_of_ble_eq_true rfl⟩) hS (fun q _ h => hFc q h) hFc (fun r2 s1 t H locs ht hvm hw hB _ _ hS => ?_)
  obtain ⟨hP, -, hD⟩ := hB
  rw [ht] at hP
  have hD := hD.weaken (fun _ _ _ h9 => hFc _ h9)
  refine lv_if_ne (tgt := 16) hx hb dM_count_11 (by decide) (fun c3 => ?_) (fun c3 => ?_)
  · have hw := hw.1 c3
    refine lv_iload_n hx hb dM_count_16 rfl (lv_at hl 1 rfl) ?_
    refine lv_iconst (v := 4) hx hb dM_count_17 (by decide) ?_
    refine lv_icmp_ge (tgt := 61) hx hb dM_count_18 (by decide) (fun c4 => ?_) (fun c4 => ?_)
    · have hw := hw.1 c4
      refine lv_iconst (v := 0) hx hb dM_count_61 (by decide) ?_
      refine lv_istore_n (lv' := [(2, .int 0), (0, .ref (ad 0 0)), (1, .int a0)]) hx hb dM_count_62 rfl hl (by decide) rfl (fun ls hl => ?_)
      refine lv_iconst (v := 0) hx hb dM_count_63 (by decide) ?_
      refine lv_istore_n (lv' := [(3, .int 0), (2, .int 0), (0, .ref (ad 0 0)), (1, .int a0)]) hx hb dM_count_64 rfl hl (by decide) rfl (fun ls hl => ?_)
      obtain ⟨n, hw⟩ := hw
      exact l_m_count_L65 (D := D) (ca := ca) (ad := ad)  hx hb hr hml hts hown hlocks hA hK hE n s1 a0 0 0 hw _ _ hP hD hS ls (lv_sub hl [2, 3, 1, 0] rfl)
    · have hw := hw.2 c4
      refine lv_iload_n hx hb dM_count_21 rfl (lv_at hl 1 rfl) ?_
      refine lv_if_ne (tgt := 32) hx hb dM_count_22 (by decide) (fun c5 => ?_) (fun c5 => ?_)
      · have hw := hw.1 c5
        refine lv_iload_n hx hb dM_count_32 rfl (lv_at hl 1 rfl) ?_
        refine lv_iconst (v := 1) hx hb dM_count_33 (by decide) ?_
        refine lv_icmp_ne (tgt := 44) hx hb dM_count_34 (by decide) (fun c6 => ?_) (fun c6 => ?_)
        · have hw := hw.1 c6
          refine lv_iload_n hx hb dM_count_44 rfl (lv_at hl 1 rfl) ?_
          refine lv_iconst (v := 2) hx hb dM_count_45 (by decide) ?_
          refine lv_icmp_ne (tgt := 56) hx hb dM_count_46 (by decide) (fun c7 => ?_) (fun c7 => ?_)
          · have hw := hw.1 c7
            refine lv_aload_n hx hb dM_count_56 rfl (lv_at hl 0 rfl) ?_
            refine va_get (D := D) (ci := 5) (v := .int (mG s1 4)) (C := RM) (T := TM) (N := 26) hx hb hts inM hown hK hP 0 gM_0 rfl 4 (by decide) (hts _ tw_595) (fun _ h9 => h9) rfl dM_count_57 ?_
            exact W.iret (v := (mG s1 4)) hx hb hr (fun t ht hW => ⟨⟨(mG s1 4), s1, rfl, hw, by rw [ht]; exact hP, va_K.moved hW.alike hK, hD⟩, hS.F ht⟩) hS.2.2 dM_count_60
          · have hw := hw.2 c7
            refine lv_aload_n hx hb dM_count_49 rfl (lv_at hl 0 rfl) ?_
            refine va_get (D := D) (ci := 5) (v := .int (mG s1 2)) (C := RM) (T := TM) (N := 26) hx hb hts inM hown hK hP 0 gM_0 rfl 2 (by decide) (hts _ tw_593) (fun _ h9 => h9) rfl dM_count_50 ?_
            refine lv_goto (tgt := 60) hx hb dM_count_53 (by decide) ?_
            exact W.iret (v := (mG s1 2)) hx hb hr (fun t ht hW => ⟨⟨(mG s1 2), s1, rfl, hw, by rw [ht]; exact hP, va_K.moved hW.alike hK, hD⟩, hS.F ht⟩) hS.2.2 dM_count_60
        · have hw := hw.2 c6
          refine lv_aload_n hx hb dM_count_37 rfl (lv_at hl 0 rfl) ?_
          refine va_get (D := D) (ci := 5) (v := .int (mG s1 5)) (C := RM) (T := TM) (N := 26) hx hb hts inM hown hK hP 0 gM_0 rfl 5 (by decide) (hts _ tw_596) (fun _ h9 => h9) rfl dM_count_38 ?_
          refine lv_goto (tgt := 60) hx hb dM_count_41 (by decide) ?_
          exact W.iret (v := (mG s1 5)) hx hb hr (fun t ht hW => ⟨⟨(mG s1 5), s1, rfl, hw, by rw [ht]; exact hP, va_K.moved hW.alike hK, hD⟩, hS.F ht⟩) hS.2.2 dM_count_60
      · have hw := hw.2 c5
        refine lv_aload_n hx hb dM_count_25 rfl (lv_at hl 0 rfl) ?_
        refine va_get (D := D) (ci := 5) (v := .int (mG s1 1)) (C := RM) (T := TM) (N := 26) hx hb hts inM hown hK hP 0 gM_0 rfl 1 (by decide) (hts _ tw_592) (fun _ h9 => h9) rfl dM_count_26 ?_
        refine lv_goto (tgt := 60) hx hb dM_count_29 (by decide) ?_
        exact W.iret (v := (mG s1 1)) hx hb hr (fun t ht hW => ⟨⟨(mG s1 1), s1, rfl, hw, by rw [ht]; exact hP, va_K.moved hW.alike hK, hD⟩, hS.F ht⟩) hS.2.2 dM_count_60
  · have hw := hw.2 c3
    refine lv_iconst (v := (-1)) hx hb dM_count_14 (by decide) ?_
    exact W.iret (v := (-1)) hx hb hr (fun t ht hW => ⟨⟨(-1), s1, rfl, hw, by rw [ht]; exact hP, va_K.moved hW.alike hK, hD⟩, hS.F ht⟩) hS.2.2 dM_count_15
