theorem dG_add_0 : decode cG_add 0 = .ok (.aload_n 1, 1) := by decide +kernel
theorem dG_add_1 : decode cG_add 1 = .ok (.getfield 19, 3) := by decide +kernel
theorem dG_add_4 : decode cG_add 4 = .ok (.ifCond .ne 17, 3) := by decide +kernel
theorem dG_add_7 : decode cG_add 7 = .ok (.aload_n 1, 1) := by decide +kernel
theorem dG_add_8 : decode cG_add 8 = .ok (.getfield 25, 3) := by decide +kernel
theorem dG_add_11 : decode cG_add 11 = .ok (.invokestatic 28, 3) := by decide +kernel
theorem dG_add_14 : decode cG_add 14 = .ok (.ifCond .eq 7, 3) := by decide +kernel
theorem dG_add_17 : decode cG_add 17 = .ok (.iconst 1, 1) := by decide +kernel
theorem dG_add_18 : decode cG_add 18 = .ok (.goto 4, 3) := by decide +kernel
theorem dG_add_21 : decode cG_add 21 = .ok (.iconst 0, 1) := by decide +kernel
theorem dG_add_22 : decode cG_add 22 = .ok (.istore_n 3, 1) := by decide +kernel
theorem dG_add_23 : decode cG_add 23 = .ok (.aload_n 0, 1) := by decide +kernel
theorem dG_add_24 : decode cG_add 24 = .ok (.getfield 15, 3) := by decide +kernel
theorem dG_add_27 : decode cG_add 27 = .ok (.invokestatic 32, 3) := by decide +kernel
theorem dG_add_30 : decode cG_add 30 = .ok (.istore 4, 2) := by decide +kernel
theorem dG_add_32 : decode cG_add 32 = .ok (.aload_n 0, 1) := by decide +kernel
theorem dG_add_33 : decode cG_add 33 = .ok (.getfield 11, 3) := by decide +kernel
theorem dG_add_36 : decode cG_add 36 = .ok (.iload 4, 2) := by decide +kernel
theorem dG_add_38 : decode cG_add 38 = .ok (.aload_n 1, 1) := by decide +kernel
theorem dG_add_39 : decode cG_add 39 = .ok (.getfield 36, 3) := by decide +kernel
theorem dG_add_42 : decode cG_add 42 = .ok (.iastore, 1) := by decide +kernel
theorem dG_add_43 : decode cG_add 43 = .ok (.aload_n 0, 1) := by decide +kernel
theorem dG_add_44 : decode cG_add 44 = .ok (.getfield 11, 3) := by decide +kernel
theorem dG_add_47 : decode cG_add 47 = .ok (.iload 4, 2) := by decide +kernel
theorem dG_add_49 : decode cG_add 49 = .ok (.iconst 1, 1) := by decide +kernel
theorem dG_add_50 : decode cG_add 50 = .ok (.iadd, 1) := by decide +kernel
theorem dG_add_51 : decode cG_add 51 = .ok (.aload_n 1, 1) := by decide +kernel
theorem dG_add_52 : decode cG_add 52 = .ok (.getfield 39, 3) := by decide +kernel
theorem dG_add_55 : decode cG_add 55 = .ok (.iastore, 1) := by decide +kernel
theorem dG_add_56 : decode cG_add 56 = .ok (.aload_n 0, 1) := by decide +kernel
theorem dG_add_57 : decode cG_add 57 = .ok (.getfield 11, 3) := by decide +kernel
theorem dG_add_60 : decode cG_add 60 = .ok (.iload 4, 2) := by decide +kernel
theorem dG_add_62 : decode cG_add 62 = .ok (.iconst 2, 1) := by decide +kernel
theorem dG_add_63 : decode cG_add 63 = .ok (.iadd, 1) := by decide +kernel
theorem dG_add_64 : decode cG_add 64 = .ok (.aload_n 1, 1) := by decide +kernel
theorem dG_add_65 : decode cG_add 65 = .ok (.getfield 42, 3) := by decide +kernel
theorem dG_add_68 : decode cG_add 68 = .ok (.iastore, 1) := by decide +kernel
theorem dG_add_69 : decode cG_add 69 = .ok (.aload_n 0, 1) := by decide +kernel
theorem dG_add_70 : decode cG_add 70 = .ok (.getfield 11, 3) := by decide +kernel
theorem dG_add_73 : decode cG_add 73 = .ok (.iload 4, 2) := by decide +kernel
theorem dG_add_75 : decode cG_add 75 = .ok (.iconst 3, 1) := by decide +kernel
theorem dG_add_76 : decode cG_add 76 = .ok (.iadd, 1) := by decide +kernel
theorem dG_add_77 : decode cG_add 77 = .ok (.aload_n 1, 1) := by decide +kernel
theorem dG_add_78 : decode cG_add 78 = .ok (.getfield 19, 3) := by decide +kernel
theorem dG_add_81 : decode cG_add 81 = .ok (.ifCond .eq 8, 3) := by decide +kernel
theorem dG_add_84 : decode cG_add 84 = .ok (.bipush 6, 2) := by decide +kernel
theorem dG_add_86 : decode cG_add 86 = .ok (.goto 7, 3) := by decide +kernel
theorem dG_add_89 : decode cG_add 89 = .ok (.aload_n 1, 1) := by decide +kernel
theorem dG_add_90 : decode cG_add 90 = .ok (.getfield 25, 3) := by decide +kernel
theorem dG_add_93 : decode cG_add 93 = .ok (.iastore, 1) := by decide +kernel
theorem dG_add_94 : decode cG_add 94 = .ok (.aload_n 0, 1) := by decide +kernel
theorem dG_add_95 : decode cG_add 95 = .ok (.getfield 11, 3) := by decide +kernel
theorem dG_add_98 : decode cG_add 98 = .ok (.iload 4, 2) := by decide +kernel
theorem dG_add_100 : decode cG_add 100 = .ok (.iconst 4, 1) := by decide +kernel
theorem dG_add_101 : decode cG_add 101 = .ok (.iadd, 1) := by decide +kernel
theorem dG_add_102 : decode cG_add 102 = .ok (.iload_n 3, 1) := by decide +kernel
theorem dG_add_103 : decode cG_add 103 = .ok (.ifCond .eq 10, 3) := by decide +kernel
theorem dG_add_106 : decode cG_add 106 = .ok (.aload_n 1, 1) := by decide +kernel
theorem dG_add_107 : decode cG_add 107 = .ok (.getfield 45, 3) := by decide +kernel
theorem dG_add_110 : decode cG_add 110 = .ok (.goto 4, 3) := by decide +kernel
theorem dG_add_113 : decode cG_add 113 = .ok (.iconst (-1), 1) := by decide +kernel
theorem dG_add_114 : decode cG_add 114 = .ok (.iastore, 1) := by decide +kernel
theorem dG_add_115 : decode cG_add 115 = .ok (.aload_n 0, 1) := by decide +kernel
theorem dG_add_116 : decode cG_add 116 = .ok (.getfield 11, 3) := by decide +kernel
theorem dG_add_119 : decode cG_add 119 = .ok (.iload 4, 2) := by decide +kernel
theorem dG_add_121 : decode cG_add 121 = .ok (.iconst 5, 1) := by decide +kernel
theorem dG_add_122 : decode cG_add 122 = .ok (.iadd, 1) := by decide +kernel
theorem dG_add_123 : decode cG_add 123 = .ok (.iload_n 3, 1) := by decide +kernel
theorem dG_add_124 : decode cG_add 124 = .ok (.ifCond .eq 10, 3) := by decide +kernel
theorem dG_add_127 : decode cG_add 127 = .ok (.aload_n 1, 1) := by decide +kernel
theorem dG_add_128 : decode cG_add 128 = .ok (.getfield 48, 3) := by decide +kernel
theorem dG_add_131 : decode cG_add 131 = .ok (.goto 4, 3) := by decide +kernel
theorem dG_add_134 : decode cG_add 134 = .ok (.iconst 0, 1) := by decide +kernel
theorem dG_add_135 : decode cG_add 135 = .ok (.iastore, 1) := by decide +kernel
theorem dG_add_136 : decode cG_add 136 = .ok (.aload_n 0, 1) := by decide +kernel
theorem dG_add_137 : decode cG_add 137 = .ok (.getfield 11, 3) := by decide +kernel
theorem dG_add_140 : decode cG_add 140 = .ok (.iload 4, 2) := by decide +kernel
theorem dG_add_142 : decode cG_add 142 = .ok (.bipush 6, 2) := by decide +kernel
theorem dG_add_144 : decode cG_add 144 = .ok (.iadd, 1) := by decide +kernel
theorem dG_add_145 : decode cG_add 145 = .ok (.aload_n 1, 1) := by decide +kernel
theorem dG_add_146 : decode cG_add 146 = .ok (.getfield 19, 3) := by decide +kernel
theorem dG_add_149 : decode cG_add 149 = .ok (.ifCond .eq 7, 3) := by decide +kernel
theorem dG_add_152 : decode cG_add 152 = .ok (.iconst 0, 1) := by decide +kernel
theorem dG_add_153 : decode cG_add 153 = .ok (.goto 7, 3) := by decide +kernel
theorem dG_add_156 : decode cG_add 156 = .ok (.aload_n 1, 1) := by decide +kernel
theorem dG_add_157 : decode cG_add 157 = .ok (.getfield 51, 3) := by decide +kernel
theorem dG_add_160 : decode cG_add 160 = .ok (.iastore, 1) := by decide +kernel
theorem dG_add_161 : decode cG_add 161 = .ok (.aload_n 0, 1) := by decide +kernel
theorem dG_add_162 : decode cG_add 162 = .ok (.getfield 11, 3) := by decide +kernel
theorem dG_add_165 : decode cG_add 165 = .ok (.iload 4, 2) := by decide +kernel
theorem dG_add_167 : decode cG_add 167 = .ok (.bipush 7, 2) := by decide +kernel
theorem dG_add_169 : decode cG_add 169 = .ok (.iadd, 1) := by decide +kernel
theorem dG_add_170 : decode cG_add 170 = .ok (.iload_n 2, 1) := by decide +kernel
theorem dG_add_171 : decode cG_add 171 = .ok (.iastore, 1) := by decide +kernel
theorem dG_add_172 : decode cG_add 172 = .ok (.aload_n 0, 1) := by decide +kernel
theorem dG_add_173 : decode cG_add 173 = .ok (.dup, 1) := by decide +kernel
theorem dG_add_174 : decode cG_add 174 = .ok (.getfield 15, 3) := by decide +kernel
theorem dG_add_177 : decode cG_add 177 = .ok (.iconst 1, 1) := by decide +kernel
theorem dG_add_178 : decode cG_add 178 = .ok (.iadd, 1) := by decide +kernel
theorem dG_add_179 : decode cG_add 179 = .ok (.putfield 15, 3) := by decide +kernel
theorem dG_add_182 : decode cG_add 182 = .ok (.return_, 1) := by decide +kernel
def wp_logAdd (post : Sg → Prop) (σ : Sg) (k0 : Nat) (a1 : Int32) : Prop := ((¬ ((sF σ 12 k0) = 0) → wp_firstCell (fun r3 s2 => (vp_in r3 512 ∧ (vp_in (r3 + 1) 512 ∧ (vp_in (r3 + 2) 512 ∧ ((((sF s2 12 k0) = 0) → (vp_in (r3 + 3) 512 ∧ (vp_in (r3 + 4) 512 ∧ (vp_in (r3 + 5) 512 ∧ (vp_in (r3 + 6) 512 ∧ (vp_in (r3 + 7) 512 ∧ post (uG 4 ((sG s2 4) + 1) (uA 1 (upd (upd (upd (upd (upd (upd (upd (upd (sA s2 1) (r3).toNatClampNeg (sF s2 0 k0)) (r3 + 1).toNatClampNeg (sF s2 7 k0)) (r3 + 2).toNatClampNeg (sF s2 10 k0)) (r3 + 3).toNatClampNeg (sF s2 6 k0)) (r3 + 4).toNatClampNeg (-1)) (r3 + 5).toNatClampNeg 0) (r3 + 6).toNatClampNeg (sF s2 3 k0)) (r3 + 7).toNatClampNeg a1) (uA 1 (upd (upd (upd (upd (upd (upd (upd (sA s2 1) (r3).toNatClampNeg (sF s2 0 k0)) (r3 + 1).toNatClampNeg (sF s2 7 k0)) (r3 + 2).toNatClampNeg (sF s2 10 k0)) (r3 + 3).toNatClampNeg (sF s2 6 k0)) (r3 + 4).toNatClampNeg (-1)) (r3 + 5).toNatClampNeg 0) (r3 + 6).toNatClampNeg (sF s2 3 k0)) (uA 1 (upd (upd (upd (upd (upd (upd (sA s2 1) (r3).toNatClampNeg (sF s2 0 k0)) (r3 + 1).toNatClampNeg (sF s2 7 k0)) (r3 + 2).toNatClampNeg (sF s2 10 k0)) (r3 + 3).toNatClampNeg (sF s2 6 k0)) (r3 + 4).toNatClampNeg (-1)) (r3 + 5).toNatClampNeg 0) (uA 1 (upd (upd (upd (upd (upd (sA s2 1) (r3).toNatClampNeg (sF s2 0 k0)) (r3 + 1).toNatClampNeg (sF s2 7 k0)) (r3 + 2).toNatClampNeg (sF s2 10 k0)) (r3 + 3).toNatClampNeg (sF s2 6 k0)) (r3 + 4).toNatClampNeg (-1)) (uA 1 (upd (upd (upd (upd (sA s2 1) (r3).toNatClampNeg (sF s2 0 k0)) (r3 + 1).toNatClampNeg (sF s2 7 k0)) (r3 + 2).toNatClampNeg (sF s2 10 k0)) (r3 + 3).toNatClampNeg (sF s2 6 k0)) (uA 1 (upd (upd (upd (sA s2 1) (r3).toNatClampNeg (sF s2 0 k0)) (r3 + 1).toNatClampNeg (sF s2 7 k0)) (r3 + 2).toNatClampNeg (sF s2 10 k0)) (uA 1 (upd (upd (sA s2 1) (r3).toNatClampNeg (sF s2 0 k0)) (r3 + 1).toNatClampNeg (sF s2 7 k0)) (uA 1 (upd (sA s2 1) (r3).toNatClampNeg (sF s2 0 k0)) s2))))))))))))))) ∧ (¬ ((sF s2 12 k0) = 0) → (vp_in (r3 + 3) 512 ∧ (vp_in (r3 + 4) 512 ∧ (vp_in (r3 + 5) 512 ∧ (vp_in (r3 + 6) 512 ∧ (vp_in (r3 + 7) 512 ∧ post (uG 4 ((sG s2 4) + 1) (uA 1 (upd (upd (upd (upd (upd (upd (upd (upd (sA s2 1) (r3).toNatClampNeg (sF s2 0 k0)) (r3 + 1).toNatClampNeg (sF s2 7 k0)) (r3 + 2).toNatClampNeg (sF s2 10 k0)) (r3 + 3).toNatClampNeg 6) (r3 + 4).toNatClampNeg (-1)) (r3 + 5).toNatClampNeg 0) (r3 + 6).toNatClampNeg 0) (r3 + 7).toNatClampNeg a1) (uA 1 (upd (upd (upd (upd (upd (upd (upd (sA s2 1) (r3).toNatClampNeg (sF s2 0 k0)) (r3 + 1).toNatClampNeg (sF s2 7 k0)) (r3 + 2).toNatClampNeg (sF s2 10 k0)) (r3 + 3).toNatClampNeg 6) (r3 + 4).toNatClampNeg (-1)) (r3 + 5).toNatClampNeg 0) (r3 + 6).toNatClampNeg 0) (uA 1 (upd (upd (upd (upd (upd (upd (sA s2 1) (r3).toNatClampNeg (sF s2 0 k0)) (r3 + 1).toNatClampNeg (sF s2 7 k0)) (r3 + 2).toNatClampNeg (sF s2 10 k0)) (r3 + 3).toNatClampNeg 6) (r3 + 4).toNatClampNeg (-1)) (r3 + 5).toNatClampNeg 0) (uA 1 (upd (upd (upd (upd (upd (sA s2 1) (r3).toNatClampNeg (sF s2 0 k0)) (r3 + 1).toNatClampNeg (sF s2 7 k0)) (r3 + 2).toNatClampNeg (sF s2 10 k0)) (r3 + 3).toNatClampNeg 6) (r3 + 4).toNatClampNeg (-1)) (uA 1 (upd (upd (upd (upd (sA s2 1) (r3).toNatClampNeg (sF s2 0 k0)) (r3 + 1).toNatClampNeg (sF s2 7 k0)) (r3 + 2).toNatClampNeg (sF s2 10 k0)) (r3 + 3).toNatClampNeg 6) (uA 1 (upd (upd (upd (sA s2 1) (r3).toNatClampNeg (sF s2 0 k0)) (r3 + 1).toNatClampNeg (sF s2 7 k0)) (r3 + 2).toNatClampNeg (sF s2 10 k0)) (uA 1 (upd (upd (sA s2 1) (r3).toNatClampNeg (sF s2 0 k0)) (r3 + 1).toNatClampNeg (sF s2 7 k0)) (uA 1 (upd (sA s2 1) (r3).toNatClampNeg (sF s2 0 k0)) s2)))))))))))))))))))) σ (sG σ 4)) ∧ (((sF σ 12 k0) = 0) → wp_isCommand (fun r19 s18 => (((r19 = 0) → wp_firstCell (fun r22 s21 => (vp_in r22 512 ∧ (vp_in (r22 + 1) 512 ∧ (vp_in (r22 + 2) 512 ∧ ((((sF s21 12 k0) = 0) → (vp_in (r22 + 3) 512 ∧ (vp_in (r22 + 4) 512 ∧ (vp_in (r22 + 5) 512 ∧ (vp_in (r22 + 6) 512 ∧ (vp_in (r22 + 7) 512 ∧ post (uG 4 ((sG s21 4) + 1) (uA 1 (upd (upd (upd (upd (upd (upd (upd (upd (sA s21 1) (r22).toNatClampNeg (sF s21 0 k0)) (r22 + 1).toNatClampNeg (sF s21 7 k0)) (r22 + 2).toNatClampNeg (sF s21 10 k0)) (r22 + 3).toNatClampNeg (sF s21 6 k0)) (r22 + 4).toNatClampNeg (-1)) (r22 + 5).toNatClampNeg 0) (r22 + 6).toNatClampNeg (sF s21 3 k0)) (r22 + 7).toNatClampNeg a1) (uA 1 (upd (upd (upd (upd (upd (upd (upd (sA s21 1) (r22).toNatClampNeg (sF s21 0 k0)) (r22 + 1).toNatClampNeg (sF s21 7 k0)) (r22 + 2).toNatClampNeg (sF s21 10 k0)) (r22 + 3).toNatClampNeg (sF s21 6 k0)) (r22 + 4).toNatClampNeg (-1)) (r22 + 5).toNatClampNeg 0) (r22 + 6).toNatClampNeg (sF s21 3 k0)) (uA 1 (upd (upd (upd (upd (upd (upd (sA s21 1) (r22).toNatClampNeg (sF s21 0 k0)) (r22 + 1).toNatClampNeg (sF s21 7 k0)) (r22 + 2).toNatClampNeg (sF s21 10 k0)) (r22 + 3).toNatClampNeg (sF s21 6 k0)) (r22 + 4).toNatClampNeg (-1)) (r22 + 5).toNatClampNeg 0) (uA 1 (upd (upd (upd (upd (upd (sA s21 1) (r22).toNatClampNeg (sF s21 0 k0)) (r22 + 1).toNatClampNeg (sF s21 7 k0)) (r22 + 2).toNatClampNeg (sF s21 10 k0)) (r22 + 3).toNatClampNeg (sF s21 6 k0)) (r22 + 4).toNatClampNeg (-1)) (uA 1 (upd (upd (upd (upd (sA s21 1) (r22).toNatClampNeg (sF s21 0 k0)) (r22 + 1).toNatClampNeg (sF s21 7 k0)) (r22 + 2).toNatClampNeg (sF s21 10 k0)) (r22 + 3).toNatClampNeg (sF s21 6 k0)) (uA 1 (upd (upd (upd (sA s21 1) (r22).toNatClampNeg (sF s21 0 k0)) (r22 + 1).toNatClampNeg (sF s21 7 k0)) (r22 + 2).toNatClampNeg (sF s21 10 k0)) (uA 1 (upd (upd (sA s21 1) (r22).toNatClampNeg (sF s21 0 k0)) (r22 + 1).toNatClampNeg (sF s21 7 k0)) (uA 1 (upd (sA s21 1) (r22).toNatClampNeg (sF s21 0 k0)) s21))))))))))))))) ∧ (¬ ((sF s21 12 k0) = 0) → (vp_in (r22 + 3) 512 ∧ (vp_in (r22 + 4) 512 ∧ (vp_in (r22 + 5) 512 ∧ (vp_in (r22 + 6) 512 ∧ (vp_in (r22 + 7) 512 ∧ post (uG 4 ((sG s21 4) + 1) (uA 1 (upd (upd (upd (upd (upd (upd (upd (upd (sA s21 1) (r22).toNatClampNeg (sF s21 0 k0)) (r22 + 1).toNatClampNeg (sF s21 7 k0)) (r22 + 2).toNatClampNeg (sF s21 10 k0)) (r22 + 3).toNatClampNeg 6) (r22 + 4).toNatClampNeg (-1)) (r22 + 5).toNatClampNeg 0) (r22 + 6).toNatClampNeg 0) (r22 + 7).toNatClampNeg a1) (uA 1 (upd (upd (upd (upd (upd (upd (upd (sA s21 1) (r22).toNatClampNeg (sF s21 0 k0)) (r22 + 1).toNatClampNeg (sF s21 7 k0)) (r22 + 2).toNatClampNeg (sF s21 10 k0)) (r22 + 3).toNatClampNeg 6) (r22 + 4).toNatClampNeg (-1)) (r22 + 5).toNatClampNeg 0) (r22 + 6).toNatClampNeg 0) (uA 1 (upd (upd (upd (upd (upd (upd (sA s21 1) (r22).toNatClampNeg (sF s21 0 k0)) (r22 + 1).toNatClampNeg (sF s21 7 k0)) (r22 + 2).toNatClampNeg (sF s21 10 k0)) (r22 + 3).toNatClampNeg 6) (r22 + 4).toNatClampNeg (-1)) (r22 + 5).toNatClampNeg 0) (uA 1 (upd (upd (upd (upd (upd (sA s21 1) (r22).toNatClampNeg (sF s21 0 k0)) (r22 + 1).toNatClampNeg (sF s21 7 k0)) (r22 + 2).toNatClampNeg (sF s21 10 k0)) (r22 + 3).toNatClampNeg 6) (r22 + 4).toNatClampNeg (-1)) (uA 1 (upd (upd (upd (upd (sA s21 1) (r22).toNatClampNeg (sF s21 0 k0)) (r22 + 1).toNatClampNeg (sF s21 7 k0)) (r22 + 2).toNatClampNeg (sF s21 10 k0)) (r22 + 3).toNatClampNeg 6) (uA 1 (upd (upd (upd (sA s21 1) (r22).toNatClampNeg (sF s21 0 k0)) (r22 + 1).toNatClampNeg (sF s21 7 k0)) (r22 + 2).toNatClampNeg (sF s21 10 k0)) (uA 1 (upd (upd (sA s21 1) (r22).toNatClampNeg (sF s21 0 k0)) (r22 + 1).toNatClampNeg (sF s21 7 k0)) (uA 1 (upd (sA s21 1) (r22).toNatClampNeg (sF s21 0 k0)) s21)))))))))))))))))))) s18 (sG s18 4)) ∧ (¬ (r19 = 0) → wp_firstCell (fun r38 s37 => (vp_in r38 512 ∧ (vp_in (r38 + 1) 512 ∧ (vp_in (r38 + 2) 512 ∧ ((((sF s37 12 k0) = 0) → (vp_in (r38 + 3) 512 ∧ (vp_in (r38 + 4) 512 ∧ (vp_in (r38 + 5) 512 ∧ (vp_in (r38 + 6) 512 ∧ (vp_in (r38 + 7) 512 ∧ post (uG 4 ((sG s37 4) + 1) (uA 1 (upd (upd (upd (upd (upd (upd (upd (upd (sA s37 1) (r38).toNatClampNeg (sF s37 0 k0)) (r38 + 1).toNatClampNeg (sF s37 7 k0)) (r38 + 2).toNatClampNeg (sF s37 10 k0)) (r38 + 3).toNatClampNeg (sF s37 6 k0)) (r38 + 4).toNatClampNeg (sF s37 8 k0)) (r38 + 5).toNatClampNeg (sF s37 9 k0)) (r38 + 6).toNatClampNeg (sF s37 3 k0)) (r38 + 7).toNatClampNeg a1) (uA 1 (upd (upd (upd (upd (upd (upd (upd (sA s37 1) (r38).toNatClampNeg (sF s37 0 k0)) (r38 + 1).toNatClampNeg (sF s37 7 k0)) (r38 + 2).toNatClampNeg (sF s37 10 k0)) (r38 + 3).toNatClampNeg (sF s37 6 k0)) (r38 + 4).toNatClampNeg (sF s37 8 k0)) (r38 + 5).toNatClampNeg (sF s37 9 k0)) (r38 + 6).toNatClampNeg (sF s37 3 k0)) (uA 1 (upd (upd (upd (upd (upd (upd (sA s37 1) (r38).toNatClampNeg (sF s37 0 k0)) (r38 + 1).toNatClampNeg (sF s37 7 k0)) (r38 + 2).toNatClampNeg (sF s37 10 k0)) (r38 + 3).toNatClampNeg (sF s37 6 k0)) (r38 + 4).toNatClampNeg (sF s37 8 k0)) (r38 + 5).toNatClampNeg (sF s37 9 k0)) (uA 1 (upd (upd (upd (upd (upd (sA s37 1) (r38).toNatClampNeg (sF s37 0 k0)) (r38 + 1).toNatClampNeg (sF s37 7 k0)) (r38 + 2).toNatClampNeg (sF s37 10 k0)) (r38 + 3).toNatClampNeg (sF s37 6 k0)) (r38 + 4).toNatClampNeg (sF s37 8 k0)) (uA 1 (upd (upd (upd (upd (sA s37 1) (r38).toNatClampNeg (sF s37 0 k0)) (r38 + 1).toNatClampNeg (sF s37 7 k0)) (r38 + 2).toNatClampNeg (sF s37 10 k0)) (r38 + 3).toNatClampNeg (sF s37 6 k0)) (uA 1 (upd (upd (upd (sA s37 1) (r38).toNatClampNeg (sF s37 0 k0)) (r38 + 1).toNatClampNeg (sF s37 7 k0)) (r38 + 2).toNatClampNeg (sF s37 10 k0)) (uA 1 (upd (upd (sA s37 1) (r38).toNatClampNeg (sF s37 0 k0)) (r38 + 1).toNatClampNeg (sF s37 7 k0)) (uA 1 (upd (sA s37 1) (r38).toNatClampNeg (sF s37 0 k0)) s37))))))))))))))) ∧ (¬ ((sF s37 12 k0) = 0) → (vp_in (r38 + 3) 512 ∧ (vp_in (r38 + 4) 512 ∧ (vp_in (r38 + 5) 512 ∧ (vp_in (r38 + 6) 512 ∧ (vp_in (r38 + 7) 512 ∧ post (uG 4 ((sG s37 4) + 1) (uA 1 (upd (upd (upd (upd (upd (upd (upd (upd (sA s37 1) (r38).toNatClampNeg (sF s37 0 k0)) (r38 + 1).toNatClampNeg (sF s37 7 k0)) (r38 + 2).toNatClampNeg (sF s37 10 k0)) (r38 + 3).toNatClampNeg 6) (r38 + 4).toNatClampNeg (sF s37 8 k0)) (r38 + 5).toNatClampNeg (sF s37 9 k0)) (r38 + 6).toNatClampNeg 0) (r38 + 7).toNatClampNeg a1) (uA 1 (upd (upd (upd (upd (upd (upd (upd (sA s37 1) (r38).toNatClampNeg (sF s37 0 k0)) (r38 + 1).toNatClampNeg (sF s37 7 k0)) (r38 + 2).toNatClampNeg (sF s37 10 k0)) (r38 + 3).toNatClampNeg 6) (r38 + 4).toNatClampNeg (sF s37 8 k0)) (r38 + 5).toNatClampNeg (sF s37 9 k0)) (r38 + 6).toNatClampNeg 0) (uA 1 (upd (upd (upd (upd (upd (upd (sA s37 1) (r38).toNatClampNeg (sF s37 0 k0)) (r38 + 1).toNatClampNeg (sF s37 7 k0)) (r38 + 2).toNatClampNeg (sF s37 10 k0)) (r38 + 3).toNatClampNeg 6) (r38 + 4).toNatClampNeg (sF s37 8 k0)) (r38 + 5).toNatClampNeg (sF s37 9 k0)) (uA 1 (upd (upd (upd (upd (upd (sA s37 1) (r38).toNatClampNeg (sF s37 0 k0)) (r38 + 1).toNatClampNeg (sF s37 7 k0)) (r38 + 2).toNatClampNeg (sF s37 10 k0)) (r38 + 3).toNatClampNeg 6) (r38 + 4).toNatClampNeg (sF s37 8 k0)) (uA 1 (upd (upd (upd (upd (sA s37 1) (r38).toNatClampNeg (sF s37 0 k0)) (r38 + 1).toNatClampNeg (sF s37 7 k0)) (r38 + 2).toNatClampNeg (sF s37 10 k0)) (r38 + 3).toNatClampNeg 6) (uA 1 (upd (upd (upd (sA s37 1) (r38).toNatClampNeg (sF s37 0 k0)) (r38 + 1).toNatClampNeg (sF s37 7 k0)) (r38 + 2).toNatClampNeg (sF s37 10 k0)) (uA 1 (upd (upd (sA s37 1) (r38).toNatClampNeg (sF s37 0 k0)) (r38 + 1).toNatClampNeg (sF s37 7 k0)) (uA 1 (upd (sA s37 1) (r38).toNatClampNeg (sF s37 0 k0)) s37)))))))))))))))))))) s18 (sG s18 4)))) σ (sF σ 6 k0)))
set_option maxHeartbeats 4000000 in
set_option maxRecDepth 100000 in
theorem c_logAdd (l : Launch) (D : va_G) (ca : Nat → ClassId) (ad : Nat → Nat → Nat) (σ : Sg) (k0 : Nat) (hk0 : k0 < 8) (a1 : Int32) (sz : Nat) (post : Sg → Prop) (hw : wp_logAdd post σ k0 a1) : Met l yG_add wsG_add ({ frames := 1, cells := 0, slots := 0, locals := 20 }) (va_Pc [.ref (ad 3 0), .ref (ad 6 k0), .int a1] (preX D ca ad σ sz)) (va_Qv post (atX D ca ad (va_A (wX ca ad σ) sz)) (va_A (wX ca ad σ) sz)) 0 0 (va_A (wX ca ad σ) sz) := by
  refine Met.ofW (cc := cG_add) (maxL := 5) (ret := none) (by decide) rfl ?_
  intro p e s m args below meth c s₁ B hml hv
  obtain ⟨rfl, hsz, hP, hK, hD0, hE⟩ := hv
  have hx := B.exec
  have hb := B.bytes
  have hr := B.returns
  have hts : ∀ w ∈ tbG, w.before _ s = true := fun w h => atoms_spec (ws := wsG_add) B.pre w (List.mem_cons_of_mem _ h)
  have hown : s.vm.findClass RG = some m.cls := findClass_of_methodNamed B.named
  have hlocks := B.notSynchronized
  subst hsz
  have hD := hD0.self (sz := s.heap.size)
  generalize hAe : va_A (wX ca ad σ) s.heap.size = A at hD hE ⊢
  have hA : ∀ q : Nat, s.heap.size ≤ q → A q := fun q h => by rw [← hAe]; exact Or.inr h
  clear hAe
  have hS : va_S A s.heap s.heap [] := va_S.rf
  have hl := lv_entry ([.ref (ad 3 0), .ref (ad 6 k0), .int a1]) (n := 5) (Nat.le_of_ble_eq_true rfl)
  rw [lg_entry_eq]
  generalize (lg_sl ([.ref (ad 3 0), .ref (ad 6 k0), .int a1]) ++ List.replicate (5 - (lg_sl ([.ref (ad 3 0), .ref (ad 6 k0), .int a1])).length) Slot.unset).toArray = ls at hl ⊢
  have hl : lv_has ls 5 [(0, .ref (ad 3 0)), (1, .ref (ad 6 k0)), (2, .int a1)] := hl
  unfold wp_logAdd at hw
  have hP : va_P D clX (wX ca ad σ) s.heap := hP
  refine lv_aload_n hx hb dG_add_0 rfl (lv_at hl 1 rfl) ?_
  refine va_get (D := D) (ci := 1) (v := .int (sF σ 12 k0)) (C := RP) (T := TP) (N := 16) hx hb hts inP hown hK hP (6 + k0) (gX_6 hk0) rfl 12 (by decide) (hts _ tw_108) (fun _ h9 => h9) rfl dG_add_1 ?_
  refine lv_if_ne (tgt := 21) hx hb dG_add_4 (by decide) (fun c1 => ?_) (fun c1 => ?_)
  · have hw := hw.1 c1
    refine lv_iconst (v := 0) hx hb dG_add_21 (by decide) ?_
    refine lv_istore_n (lv' := [(3, .int 0), (0, .ref (ad 3 0)), (1, .ref (ad 6 k0)), (2, .int a1)]) hx hb dG_add_22 rfl hl (by decide) rfl (fun ls hl => ?_)
    refine lv_aload_n hx hb dG_add_23 rfl (lv_at hl 1 rfl) ?_
    refine va_get (D := D) (ci := 3) (v := .int (sG σ 4)) (C := RG) (T := TG) (N := 2) hx hb hts inG hown hK hP 3 gX_3 rfl 1 (by decide) (hts _ tw_64) (fun _ h9 => h9) rfl dG_add_24 ?_
    have hFc := px_free hD hS hA
    refine va_calli (va_runS (As := [.int (sG σ 4)]) (rest := []) ⟨hx, hb, hml, hown, hts⟩ (c_firstCell l D ca ad σ (sG σ 4) _ _ hw) (va_cwS 1 hts (gS tw_183 tw_184 tw_5 tw_185) rfl rfl rfl (by decide +kernel) ⟨Nat.le_of_ble_eq_true rfl, Nat.le_of_ble_eq_true rfl⟩) ⟨px_blind, fun U hU hW => px_pre hP hK hD hE hS hFc hU hW⟩ rfl rfl hl.1 rfl (lv_room (Nat.le_of_ble_eq_true rfl)) dG_add_27 ⟨Nat.le_of_ble_eq_true rfl, Nat.le_of_ble_eq_true rfl⟩) hS (fun q _ h => hFc q h) hFc (fun r3 s2 t H locs ht hvm hw hB _ _ hS => ?_)
    obtain ⟨hP, -, hD⟩ := hB
    rw [ht] at hP
    have hD := hD.weaken (fun _ _ _ h9 => hFc _ h9)
    refine lv_istore (lv' := [(4, .int r3), (3, .int 0), (0, .ref (ad 3 0)), (1, .ref (ad 6 k0)), (2, .int a1)]) hx hb dG_add_30 hl (by decide) rfl (fun ls hl => ?_)
    refine lv_aload_n hx hb dG_add_32 rfl (lv_at hl 2 rfl) ?_
    refine va_get (D := D) (ci := 3) (v := .ref (ad 5 0)) (C := RG) (T := TG) (N := 2) hx hb hts inG hown hK hP 3 gX_3 rfl 0 (by decide) (hts _ tw_63) (fun _ h9 => h9) rfl dG_add_33 ?_
    refine lv_iload hx hb dG_add_36 (lv_at hl 0 rfl) ?_
    refine lv_aload_n hx hb dG_add_38 rfl (lv_at hl 3 rfl) ?_
    refine va_get (D := D) (ci := 1) (v := .int (sF s2 0 k0)) (C := RP) (T := TP) (N := 16) hx hb hts inP hown hK hP (6 + k0) (gX_6 hk0) rfl 0 (by decide) (hts _ tw_78) (fun _ h9 => h9) rfl dG_add_39 ?_
    obtain ⟨hin4, hw⟩ := hw
    refine va_iast hx hb hK hP hD hS 5 0 gX_5 rfl hin4 dG_add_42 (fun H locs hP hD hS => ?_)
    rw [sX_5] at hP hD
    refine lv_aload_n hx hb dG_add_43 rfl (lv_at hl 2 rfl) ?_
    refine va_get (D := D) (ci := 3) (v := .ref (ad 5 0)) (C := RG) (T := TG) (N := 2) hx hb hts inG hown hK hP 3 gX_3 rfl 0 (by decide) (hts _ tw_63) (fun _ h9 => h9) rfl dG_add_44 ?_
    refine lv_iload hx hb dG_add_47 (lv_at hl 0 rfl) ?_
    refine lv_iconst (v := 1) hx hb dG_add_49 (by decide) ?_
    refine lv_iadd hx hb dG_add_50 ?_
    refine lv_aload_n hx hb dG_add_51 rfl (lv_at hl 3 rfl) ?_
    refine va_get (D := D) (ci := 1) (v := .int (sF s2 7 k0)) (C := RP) (T := TP) (N := 16) hx hb hts inP hown hK hP (6 + k0) (gX_6 hk0) rfl 7 (by decide) (hts _ tw_94) (fun _ h9 => h9) rfl dG_add_52 ?_
    obtain ⟨hin5, hw⟩ := hw
    refine va_iast hx hb hK hP hD hS 5 0 gX_5 rfl hin5 dG_add_55 (fun H locs hP hD hS => ?_)
    rw [sX_5] at hP hD
    refine lv_aload_n hx hb dG_add_56 rfl (lv_at hl 2 rfl) ?_
    refine va_get (D := D) (ci := 3) (v := .ref (ad 5 0)) (C := RG) (T := TG) (N := 2) hx hb hts inG hown hK hP 3 gX_3 rfl 0 (by decide) (hts _ tw_63) (fun _ h9 => h9) rfl dG_add_57 ?_
    refine lv_iload hx hb dG_add_60 (lv_at hl 0 rfl) ?_
    refine lv_iconst (v := 2) hx hb dG_add_62 (by decide) ?_
    refine lv_iadd hx hb dG_add_63 ?_
    refine lv_aload_n hx hb dG_add_64 rfl (lv_at hl 3 rfl) ?_
    refine va_get (D := D) (ci := 1) (v := .int (sF s2 10 k0)) (C := RP) (T := TP) (N := 16) hx hb hts inP hown hK hP (6 + k0) (gX_6 hk0) rfl 10 (by decide) (hts _ tw_103) (fun _ h9 => h9) rfl dG_add_65 ?_
    obtain ⟨hin6, hw⟩ := hw
    refine va_iast hx hb hK hP hD hS 5 0 gX_5 rfl hin6 dG_add_68 (fun H locs hP hD hS => ?_)
    rw [sX_5] at hP hD
    refine lv_aload_n hx hb dG_add_69 rfl (lv_at hl 2 rfl) ?_
    refine va_get (D := D) (ci := 3) (v := .ref (ad 5 0)) (C := RG) (T := TG) (N := 2) hx hb hts inG hown hK hP 3 gX_3 rfl 0 (by decide) (hts _ tw_63) (fun _ h9 => h9) rfl dG_add_70 ?_
    refine lv_iload hx hb dG_add_73 (lv_at hl 0 rfl) ?_
    refine lv_iconst (v := 3) hx hb dG_add_75 (by decide) ?_
    refine lv_iadd hx hb dG_add_76 ?_
    refine lv_aload_n hx hb dG_add_77 rfl (lv_at hl 3 rfl) ?_
    refine va_get (D := D) (ci := 1) (v := .int (sF s2 12 k0)) (C := RP) (T := TP) (N := 16) hx hb hts inP hown hK hP (6 + k0) (gX_6 hk0) rfl 12 (by decide) (hts _ tw_108) (fun _ h9 => h9) rfl dG_add_78 ?_
    refine lv_if_eq (tgt := 89) hx hb dG_add_81 (by decide) (fun c7 => ?_) (fun c7 => ?_)
    · have hw := hw.1 c7
      refine lv_aload_n hx hb dG_add_89 rfl (lv_at hl 3 rfl) ?_
      refine va_get (D := D) (ci := 1) (v := .int (sF s2 6 k0)) (C := RP) (T := TP) (N := 16) hx hb hts inP hown hK hP (6 + k0) (gX_6 hk0) rfl 6 (by decide) (hts _ tw_91) (fun _ h9 => h9) rfl dG_add_90 ?_
      obtain ⟨hin8, hw⟩ := hw
      refine va_iast hx hb hK hP hD hS 5 0 gX_5 rfl hin8 dG_add_93 (fun H locs hP hD hS => ?_)
      rw [sX_5] at hP hD
      refine lv_aload_n hx hb dG_add_94 rfl (lv_at hl 2 rfl) ?_
      refine va_get (D := D) (ci := 3) (v := .ref (ad 5 0)) (C := RG) (T := TG) (N := 2) hx hb hts inG hown hK hP 3 gX_3 rfl 0 (by decide) (hts _ tw_63) (fun _ h9 => h9) rfl dG_add_95 ?_
      refine lv_iload hx hb dG_add_98 (lv_at hl 0 rfl) ?_
      refine lv_iconst (v := 4) hx hb dG_add_100 (by decide) ?_
      refine lv_iadd hx hb dG_add_101 ?_
      refine lv_iload_n hx hb dG_add_102 rfl (lv_at hl 1 rfl) ?_
      refine lv_if_eq (tgt := 113) hx hb dG_add_103 (by decide) (fun _ => ?_) (fun c9 => absurd c9 (by decide))
      refine lv_iconst (v := (-1)) hx hb dG_add_113 (by decide) ?_
      obtain ⟨hin9, hw⟩ := hw
      refine va_iast hx hb hK hP hD hS 5 0 gX_5 rfl hin9 dG_add_114 (fun H locs hP hD hS => ?_)
      rw [sX_5] at hP hD
      refine lv_aload_n hx hb dG_add_115 rfl (lv_at hl 2 rfl) ?_
      refine va_get (D := D) (ci := 3) (v := .ref (ad 5 0)) (C := RG) (T := TG) (N := 2) hx hb hts inG hown hK hP 3 gX_3 rfl 0 (by decide) (hts _ tw_63) (fun _ h9 => h9) rfl dG_add_116 ?_
      refine lv_iload hx hb dG_add_119 (lv_at hl 0 rfl) ?_
      refine lv_iconst (v := 5) hx hb dG_add_121 (by decide) ?_
      refine lv_iadd hx hb dG_add_122 ?_
      refine lv_iload_n hx hb dG_add_123 rfl (lv_at hl 1 rfl) ?_
      refine lv_if_eq (tgt := 134) hx hb dG_add_124 (by decide) (fun _ => ?_) (fun c9 => absurd c9 (by decide))
      refine lv_iconst (v := 0) hx hb dG_add_134 (by decide) ?_
      obtain ⟨hin10, hw⟩ := hw
      refine va_iast hx hb hK hP hD hS 5 0 gX_5 rfl hin10 dG_add_135 (fun H locs hP hD hS => ?_)
      rw [sX_5] at hP hD
      refine lv_aload_n hx hb dG_add_136 rfl (lv_at hl 2 rfl) ?_
      refine va_get (D := D) (ci := 3) (v := .ref (ad 5 0)) (C := RG) (T := TG) (N := 2) hx hb hts inG hown hK hP 3 gX_3 rfl 0 (by decide) (hts _ tw_63) (fun _ h9 => h9) rfl dG_add_137 ?_
      refine lv_iload hx hb dG_add_140 (lv_at hl 0 rfl) ?_
      refine lv_bipush (v := 6) hx hb dG_add_142 (by decide) ?_
      refine lv_iadd hx hb dG_add_144 ?_
      refine lv_aload_n hx hb dG_add_145 rfl (lv_at hl 3 rfl) ?_
      refine va_get (D := D) (ci := 1) (v := .int (sF s2 12 k0)) (C := RP) (T := TP) (N := 16) hx hb hts inP hown hK hP (6 + k0) (gX_6 hk0) rfl 12 (by decide) (hts _ tw_108) (fun _ h9 => h9) rfl dG_add_146 ?_
      refine lv_if_eq (tgt := 156) hx hb dG_add_149 (by decide) (fun _ => ?_) (fun c9 => absurd c7 c9)
      refine lv_aload_n hx hb dG_add_156 rfl (lv_at hl 3 rfl) ?_
      refine va_get (D := D) (ci := 1) (v := .int (sF s2 3 k0)) (C := RP) (T := TP) (N := 16) hx hb hts inP hown hK hP (6 + k0) (gX_6 hk0) rfl 3 (by decide) (hts _ tw_84) (fun _ h9 => h9) rfl dG_add_157 ?_
      obtain ⟨hin11, hw⟩ := hw
      refine va_iast hx hb hK hP hD hS 5 0 gX_5 rfl hin11 dG_add_160 (fun H locs hP hD hS => ?_)
      rw [sX_5] at hP hD
      refine lv_aload_n hx hb dG_add_161 rfl (lv_at hl 2 rfl) ?_
      refine va_get (D := D) (ci := 3) (v := .ref (ad 5 0)) (C := RG) (T := TG) (N := 2) hx hb hts inG hown hK hP 3 gX_3 rfl 0 (by decide) (hts _ tw_63) (fun _ h9 => h9) rfl dG_add_162 ?_
      refine lv_iload hx hb dG_add_165 (lv_at hl 0 rfl) ?_
      refine lv_bipush (v := 7) hx hb dG_add_167 (by decide) ?_
      refine lv_iadd hx hb dG_add_169 ?_
      refine lv_iload_n hx hb dG_add_170 rfl (lv_at hl 4 rfl) ?_
      obtain ⟨hin12, hw⟩ := hw
      refine va_iast hx hb hK hP hD hS 5 0 gX_5 rfl hin12 dG_add_171 (fun H locs hP hD hS => ?_)
      rw [sX_5] at hP hD
      refine lv_aload_n hx hb dG_add_172 rfl (lv_at hl 2 rfl) ?_
      refine lv_dup hx hb dG_add_173 rfl ?_
      refine va_get (D := D) (ci := 3) (v := .int (sG s2 4)) (C := RG) (T := TG) (N := 2) hx hb hts inG hown hK hP 3 gX_3 rfl 1 (by decide) (hts _ tw_64) (fun _ h9 => h9) rfl dG_add_174 ?_
      refine lv_iconst (v := 1) hx hb dG_add_177 (by decide) ?_
      refine lv_iadd hx hb dG_add_178 ?_
      refine va_put (D := D) (ci := 3) (v := .int ((sG s2 4) + 1)) (ty := .int) (C := RG) (T := TG) (N := 2) hx hb hts inG tyG tyG_ok nmG hown hK hP hD hS 3 gX_3 rfl 1 (by decide) (hts _ tw_64) (fun _ h9 => h9) rfl (by decide +kernel) rfl rfl (Nat.le_of_ble_eq_true rfl) dG_add_179 (fun H locs hP hD hS => ?_)
      rw [sX_3_1] at hP hD
      exact W.vret hx hb hr (fun t ht hW => ⟨⟨(uG 4 ((sG s2 4) + 1) (uA 1 (upd (upd (upd (upd (upd (upd (upd (upd (sA s2 1) (r3).toNatClampNeg (sF s2 0 k0)) (r3 + 1).toNatClampNeg (sF s2 7 k0)) (r3 + 2).toNatClampNeg (sF s2 10 k0)) (r3 + 3).toNatClampNeg (sF s2 6 k0)) (r3 + 4).toNatClampNeg (-1)) (r3 + 5).toNatClampNeg 0) (r3 + 6).toNatClampNeg (sF s2 3 k0)) (r3 + 7).toNatClampNeg a1) (uA 1 (upd (upd (upd (upd (upd (upd (upd (sA s2 1) (r3).toNatClampNeg (sF s2 0 k0)) (r3 + 1).toNatClampNeg (sF s2 7 k0)) (r3 + 2).toNatClampNeg (sF s2 10 k0)) (r3 + 3).toNatClampNeg (sF s2 6 k0)) (r3 + 4).toNatClampNeg (-1)) (r3 + 5).toNatClampNeg 0) (r3 + 6).toNatClampNeg (sF s2 3 k0)) (uA 1 (upd (upd (upd (upd (upd (upd (sA s2 1) (r3).toNatClampNeg (sF s2 0 k0)) (r3 + 1).toNatClampNeg (sF s2 7 k0)) (r3 + 2).toNatClampNeg (sF s2 10 k0)) (r3 + 3).toNatClampNeg (sF s2 6 k0)) (r3 + 4).toNatClampNeg (-1)) (r3 + 5).toNatClampNeg 0) (uA 1 (upd (upd (upd (upd (upd (sA s2 1) (r3).toNatClampNeg (sF s2 0 k0)) (r3 + 1).toNatClampNeg (sF s2 7 k0)) (r3 + 2).toNatClampNeg (sF s2 10 k0)) (r3 + 3).toNatClampNeg (sF s2 6 k0)) (r3 + 4).toNatClampNeg (-1)) (uA 1 (upd (upd (upd (upd (sA s2 1) (r3).toNatClampNeg (sF s2 0 k0)) (r3 + 1).toNatClampNeg (sF s2 7 k0)) (r3 + 2).toNatClampNeg (sF s2 10 k0)) (r3 + 3).toNatClampNeg (sF s2 6 k0)) (uA 1 (upd (upd (upd (sA s2 1) (r3).toNatClampNeg (sF s2 0 k0)) (r3 + 1).toNatClampNeg (sF s2 7 k0)) (r3 + 2).toNatClampNeg (sF s2 10 k0)) (uA 1 (upd (upd (sA s2 1) (r3).toNatClampNeg (sF s2 0 k0)) (r3 + 1).toNatClampNeg (sF s2 7 k0)) (uA 1 (upd (sA s2 1) (r3).toNatClampNeg (sF s2 0 k0)) s2))))))))), rfl, hw, by rw [ht]; exact hP, va_K.moved hW.alike hK, hD⟩, hS.F ht⟩) hS.2.2 dG_add_182
    · have hw := hw.2 c7
      refine lv_bipush (v := 6) hx hb dG_add_84 (by decide) ?_
      refine lv_goto (tgt := 93) hx hb dG_add_86 (by decide) ?_
      obtain ⟨hin13, hw⟩ := hw
      refine va_iast hx hb hK hP hD hS 5 0 gX_5 rfl hin13 dG_add_93 (fun H locs hP hD hS => ?_)
      rw [sX_5] at hP hD
      refine lv_aload_n hx hb dG_add_94 rfl (lv_at hl 2 rfl) ?_
      refine va_get (D := D) (ci := 3) (v := .ref (ad 5 0)) (C := RG) (T := TG) (N := 2) hx hb hts inG hown hK hP 3 gX_3 rfl 0 (by decide) (hts _ tw_63) (fun _ h9 => h9) rfl dG_add_95 ?_
      refine lv_iload hx hb dG_add_98 (lv_at hl 0 rfl) ?_
      refine lv_iconst (v := 4) hx hb dG_add_100 (by decide) ?_
      refine lv_iadd hx hb dG_add_101 ?_
      refine lv_iload_n hx hb dG_add_102 rfl (lv_at hl 1 rfl) ?_
      refine lv_if_eq (tgt := 113) hx hb dG_add_103 (by decide) (fun _ => ?_) (fun c9 => absurd c9 (by decide))
      refine lv_iconst (v := (-1)) hx hb dG_add_113 (by decide) ?_
      obtain ⟨hin14, hw⟩ := hw
      refine va_iast hx hb hK hP hD hS 5 0 gX_5 rfl hin14 dG_add_114 (fun H locs hP hD hS => ?_)
      rw [sX_5] at hP hD
      refine lv_aload_n hx hb dG_add_115 rfl (lv_at hl 2 rfl) ?_
      refine va_get (D := D) (ci := 3) (v := .ref (ad 5 0)) (C := RG) (T := TG) (N := 2) hx hb hts inG hown hK hP 3 gX_3 rfl 0 (by decide) (hts _ tw_63) (fun _ h9 => h9) rfl dG_add_116 ?_
      refine lv_iload hx hb dG_add_119 (lv_at hl 0 rfl) ?_
      refine lv_iconst (v := 5) hx hb dG_add_121 (by decide) ?_
      refine lv_iadd hx hb dG_add_122 ?_
      refine lv_iload_n hx hb dG_add_123 rfl (lv_at hl 1 rfl) ?_
      refine lv_if_eq (tgt := 134) hx hb dG_add_124 (by decide) (fun _ => ?_) (fun c9 => absurd c9 (by decide))
      refine lv_iconst (v := 0) hx hb dG_add_134 (by decide) ?_
      obtain ⟨hin15, hw⟩ := hw
      refine va_iast hx hb hK hP hD hS 5 0 gX_5 rfl hin15 dG_add_135 (fun H locs hP hD hS => ?_)
      rw [sX_5] at hP hD
      refine lv_aload_n hx hb dG_add_136 rfl (lv_at hl 2 rfl) ?_
      refine va_get (D := D) (ci := 3) (v := .ref (ad 5 0)) (C := RG) (T := TG) (N := 2) hx hb hts inG hown hK hP 3 gX_3 rfl 0 (by decide) (hts _ tw_63) (fun _ h9 => h9) rfl dG_add_137 ?_
      refine lv_iload hx hb dG_add_140 (lv_at hl 0 rfl) ?_
      refine lv_bipush (v := 6) hx hb dG_add_142 (by decide) ?_
      refine lv_iadd hx hb dG_add_144 ?_
      refine lv_aload_n hx hb dG_add_145 rfl (lv_at hl 3 rfl) ?_
      refine va_get (D := D) (ci := 1) (v := .int (sF s2 12 k0)) (C := RP) (T := TP) (N := 16) hx hb hts inP hown hK hP (6 + k0) (gX_6 hk0) rfl 12 (by decide) (hts _ tw_108) (fun _ h9 => h9) rfl dG_add_146 ?_
      refine lv_if_eq (tgt := 156) hx hb dG_add_149 (by decide) (fun c9 => absurd c9 c7) (fun _ => ?_)
      refine lv_iconst (v := 0) hx hb dG_add_152 (by decide) ?_
      refine lv_goto (tgt := 160) hx hb dG_add_153 (by decide) ?_
      obtain ⟨hin16, hw⟩ := hw
      refine va_iast hx hb hK hP hD hS 5 0 gX_5 rfl hin16 dG_add_160 (fun H locs hP hD hS => ?_)
      rw [sX_5] at hP hD
      refine lv_aload_n hx hb dG_add_161 rfl (lv_at hl 2 rfl) ?_
      refine va_get (D := D) (ci := 3) (v := .ref (ad 5 0)) (C := RG) (T := TG) (N := 2) hx hb hts inG hown hK hP 3 gX_3 rfl 0 (by decide) (hts _ tw_63) (fun _ h9 => h9) rfl dG_add_162 ?_
      refine lv_iload hx hb dG_add_165 (lv_at hl 0 rfl) ?_
      refine lv_bipush (v := 7) hx hb dG_add_167 (by decide) ?_
      refine lv_iadd hx hb dG_add_169 ?_
      refine lv_iload_n hx hb dG_add_170 rfl (lv_at hl 4 rfl) ?_
      obtain ⟨hin17, hw⟩ := hw
      refine va_iast hx hb hK hP hD hS 5 0 gX_5 rfl hin17 dG_add_171 (fun H locs hP hD hS => ?_)
      rw [sX_5] at hP hD
      refine lv_aload_n hx hb dG_add_172 rfl (lv_at hl 2 rfl) ?_
      refine lv_dup hx hb dG_add_173 rfl ?_
      refine va_get (D := D) (ci := 3) (v := .int (sG s2 4)) (C := RG) (T := TG) (N := 2) hx hb hts inG hown hK hP 3 gX_3 rfl 1 (by decide) (hts _ tw_64) (fun _ h9 => h9) rfl dG_add_174 ?_
      refine lv_iconst (v := 1) hx hb dG_add_177 (by decide) ?_
      refine lv_iadd hx hb dG_add_178 ?_
      refine va_put (D := D) (ci := 3) (v := .int ((sG s2 4) + 1)) (ty := .int) (C := RG) (T := TG) (N := 2) hx hb hts inG tyG tyG_ok nmG hown hK hP hD hS 3 gX_3 rfl 1 (by decide) (hts _ tw_64) (fun _ h9 => h9) rfl (by decide +kernel) rfl rfl (Nat.le_of_ble_eq_true rfl) dG_add_179 (fun H locs hP hD hS => ?_)
      rw [sX_3_1] at hP hD
      exact W.vret hx hb hr (fun t ht hW => ⟨⟨(uG 4 ((sG s2 4) + 1) (uA 1 (upd (upd (upd (upd (upd (upd (upd (upd (sA s2 1) (r3).toNatClampNeg (sF s2 0 k0)) (r3 + 1).toNatClampNeg (sF s2 7 k0)) (r3 + 2).toNatClampNeg (sF s2 10 k0)) (r3 + 3).toNatClampNeg 6) (r3 + 4).toNatClampNeg (-1)) (r3 + 5).toNatClampNeg 0) (r3 + 6).toNatClampNeg 0) (r3 + 7).toNatClampNeg a1) (uA 1 (upd (upd (upd (upd (upd (upd (upd (sA s2 1) (r3).toNatClampNeg (sF s2 0 k0)) (r3 + 1).toNatClampNeg (sF s2 7 k0)) (r3 + 2).toNatClampNeg (sF s2 10 k0)) (r3 + 3).toNatClampNeg 6) (r3 + 4).toNatClampNeg (-1)) (r3 + 5).toNatClampNeg 0) (r3 + 6).toNatClampNeg 0) (uA 1 (upd (upd (upd (upd (upd (upd (sA s2 1) (r3).toNatClampNeg (sF s2 0 k0)) (r3 + 1).toNatClampNeg (sF s2 7 k0)) (r3 + 2).toNatClampNeg (sF s2 10 k0)) (r3 + 3).toNatClampNeg 6) (r3 + 4).toNatClampNeg (-1)) (r3 + 5).toNatClampNeg 0) (uA 1 (upd (upd (upd (upd (upd (sA s2 1) (r3).toNatClampNeg (sF s2 0 k0)) (r3 + 1).toNatClampNeg (sF s2 7 k0)) (r3 + 2).toNatClampNeg (sF s2 10 k0)) (r3 + 3).toNatClampNeg 6) (r3 + 4).toNatClampNeg (-1)) (uA 1 (upd (upd (upd (upd (sA s2 1) (r3).toNatClampNeg (sF s2 0 k0)) (r3 + 1).toNatClampNeg (sF s2 7 k0)) (r3 + 2).toNatClampNeg (sF s2 10 k0)) (r3 + 3).toNatClampNeg 6) (uA 1 (upd (upd (upd (sA s2 1) (r3).toNatClampNeg (sF s2 0 k0)) (r3 + 1).toNatClampNeg (sF s2 7 k0)) (r3 + 2).toNatClampNeg (sF s2 10 k0)) (uA 1 (upd (upd (sA s2 1) (r3).toNatClampNeg (sF s2 0 k0)) (r3 + 1).toNatClampNeg (sF s2 7 k0)) (uA 1 (upd (sA s2 1) (r3).toNatClampNeg (sF s2 0 k0)) s2))))))))), rfl, hw, by rw [ht]; exact hP, va_K.moved hW.alike hK, hD⟩, hS.F ht⟩) hS.2.2 dG_add_182
  · have hw := hw.2 c1
    refine lv_aload_n hx hb dG_add_7 rfl (lv_at hl 1 rfl) ?_
    refine va_get (D := D) (ci := 1) (v := .int (sF σ 6 k0)) (C := RP) (T := TP) (N := 16) hx hb hts inP hown hK hP (6 + k0) (gX_6 hk0) rfl 6 (by decide) (hts _ tw_91) (fun _ h9 => h9) rfl dG_add_8 ?_
    have hFc := px_free hD hS hA
    refine va_calli (va_runSN (As := [.int (sF σ 6 k0)]) (rest := []) ⟨hx, hb, hml, hown, hts⟩ (c_isCommand l D ca ad σ (sF σ 6 k0) _ _ hw) ⟨va_cnB 1 hts (gB tw_442) rfl rfl rfl hE.nest28 (hts _ tw_1) (by decide +kernel) ⟨Nat.le_of_ble_eq_true rfl, Nat.le_of_ble_eq_true rfl⟩, hts _ tw_441, trivial⟩ ⟨px_blind, fun U hU hW => px_pre hP hK hD hE hS hFc hU hW⟩ rfl rfl hl.1 rfl (lv_room (Nat.le_of_ble_eq_true rfl)) dG_add_11 ⟨Nat.le_of_ble_eq_true rfl, Nat.le_of_ble_eq_true rfl⟩) hS (fun q _ h => hFc q h) hFc (fun r19 s18 t H locs ht hvm hw hB _ _ hS => ?_)
    obtain ⟨hP, -, hD⟩ := hB
    rw [ht] at hP
    have hD := hD.weaken (fun _ _ _ h9 => hFc _ h9)
    refine lv_if_eq (tgt := 21) hx hb dG_add_14 (by decide) (fun c20 => ?_) (fun c20 => ?_)
    · have hw := hw.1 c20
      refine lv_iconst (v := 0) hx hb dG_add_21 (by decide) ?_
      refine lv_istore_n (lv' := [(3, .int 0), (0, .ref (ad 3 0)), (1, .ref (ad 6 k0)), (2, .int a1)]) hx hb dG_add_22 rfl hl (by decide) rfl (fun ls hl => ?_)
      refine lv_aload_n hx hb dG_add_23 rfl (lv_at hl 1 rfl) ?_
      refine va_get (D := D) (ci := 3) (v := .int (sG s18 4)) (C := RG) (T := TG) (N := 2) hx hb hts inG hown hK hP 3 gX_3 rfl 1 (by decide) (hts _ tw_64) (fun _ h9 => h9) rfl dG_add_24 ?_
      have hFc := px_free hD hS hA
      refine va_calli (va_runS (As := [.int (sG s18 4)]) (rest := []) ⟨hx, hb, hml, hown, hts⟩ (c_firstCell l D ca ad s18 (sG s18 4) _ _ hw) (va_cwS 1 hts (gS tw_183 tw_184 tw_5 tw_185) rfl rfl rfl (by decide +kernel) ⟨Nat.le_of_ble_eq_true rfl, Nat.le_of_ble_eq_true rfl⟩) ⟨px_blind, fun U hU hW => px_pre hP hK hD hE hS hFc hU hW⟩ rfl rfl hl.1 rfl (lv_room (Nat.le_of_ble_eq_true rfl)) dG_add_27 ⟨Nat.le_of_ble_eq_true rfl, Nat.le_of_ble_eq_true rfl⟩) hS (fun q _ h => hFc q h) hFc (fun r22 s21 t H locs ht hvm hw hB _ _ hS => ?_)
      obtain ⟨hP, -, hD⟩ := hB
      rw [ht] at hP
      have hD := hD.weaken (fun _ _ _ h9 => hFc _ h9)
      refine lv_istore (lv' := [(4, .int r22), (3, .int 0), (0, .ref (ad 3 0)), (1, .ref (ad 6 k0)), (2, .int a1)]) hx hb dG_add_30 hl (by decide) rfl (fun ls hl => ?_)
      refine lv_aload_n hx hb dG_add_32 rfl (lv_at hl 2 rfl) ?_
      refine va_get (D := D) (ci := 3) (v := .ref (ad 5 0)) (C := RG) (T := TG) (N := 2) hx hb hts inG hown hK hP 3 gX_3 rfl 0 (by decide) (hts _ tw_63) (fun _ h9 => h9) rfl dG_add_33 ?_
      refine lv_iload hx hb dG_add_36 (lv_at hl 0 rfl) ?_
      refine lv_aload_n hx hb dG_add_38 rfl (lv_at hl 3 rfl) ?_
      refine va_get (D := D) (ci := 1) (v := .int (sF s21 0 k0)) (C := RP) (T := TP) (N := 16) hx hb hts inP hown hK hP (6 + k0) (gX_6 hk0) rfl 0 (by decide) (hts _ tw_78) (fun _ h9 => h9) rfl dG_add_39 ?_
      obtain ⟨hin23, hw⟩ := hw
      refine va_iast hx hb hK hP hD hS 5 0 gX_5 rfl hin23 dG_add_42 (fun H locs hP hD hS => ?_)
      rw [sX_5] at hP hD
      refine lv_aload_n hx hb dG_add_43 rfl (lv_at hl 2 rfl) ?_
      refine va_get (D := D) (ci := 3) (v := .ref (ad 5 0)) (C := RG) (T := TG) (N := 2) hx hb hts inG hown hK hP 3 gX_3 rfl 0 (by decide) (hts _ tw_63) (fun _ h9 => h9) rfl dG_add_44 ?_
      refine lv_iload hx hb dG_add_47 (lv_at hl 0 rfl) ?_
      refine lv_iconst (v := 1) hx hb dG_add_49 (by decide) ?_
      refine lv_iadd hx hb dG_add_50 ?_
      refine lv_aload_n hx hb dG_add_51 rfl (lv_at hl 3 rfl) ?_
      refine va_get (D := D) (ci := 1) (v := .int (sF s21 7 k0)) (C := RP) (T := TP) (N := 16) hx hb hts inP hown hK hP (6 + k0) (gX_6 hk0) rfl 7 (by decide) (hts _ tw_94) (fun _ h9 => h9) rfl dG_add_52 ?_
      obtain ⟨hin24, hw⟩ := hw
      refine va_iast hx hb hK hP hD hS 5 0 gX_5 rfl hin24 dG_add_55 (fun H locs hP hD hS => ?_)
      rw [sX_5] at hP hD
      refine lv_aload_n hx hb dG_add_56 rfl (lv_at hl 2 rfl) ?_
      refine va_get (D := D) (ci := 3) (v := .ref (ad 5 0)) (C := RG) (T := TG) (N := 2) hx hb hts inG hown hK hP 3 gX_3 rfl 0 (by decide) (hts _ tw_63) (fun _ h9 => h9) rfl dG_add_57 ?_
      refine lv_iload hx hb dG_add_60 (lv_at hl 0 rfl) ?_
      refine lv_iconst (v := 2) hx hb dG_add_62 (by decide) ?_
      refine lv_iadd hx hb dG_add_63 ?_
      refine lv_aload_n hx hb dG_add_64 rfl (lv_at hl 3 rfl) ?_
      refine va_get (D := D) (ci := 1) (v := .int (sF s21 10 k0)) (C := RP) (T := TP) (N := 16) hx hb hts inP hown hK hP (6 + k0) (gX_6 hk0) rfl 10 (by decide) (hts _ tw_103) (fun _ h9 => h9) rfl dG_add_65 ?_
      obtain ⟨hin25, hw⟩ := hw
      refine va_iast hx hb hK hP hD hS 5 0 gX_5 rfl hin25 dG_add_68 (fun H locs hP hD hS => ?_)
      rw [sX_5] at hP hD
      refine lv_aload_n hx hb dG_add_69 rfl (lv_at hl 2 rfl) ?_
      refine va_get (D := D) (ci := 3) (v := .ref (ad 5 0)) (C := RG) (T := TG) (N := 2) hx hb hts inG hown hK hP 3 gX_3 rfl 0 (by decide) (hts _ tw_63) (fun _ h9 => h9) rfl dG_add_70 ?_
      refine lv_iload hx hb dG_add_73 (lv_at hl 0 rfl) ?_
      refine lv_iconst (v := 3) hx hb dG_add_75 (by decide) ?_
      refine lv_iadd hx hb dG_add_76 ?_
      refine lv_aload_n hx hb dG_add_77 rfl (lv_at hl 3 rfl) ?_
      refine va_get (D := D) (ci := 1) (v := .int (sF s21 12 k0)) (C := RP) (T := TP) (N := 16) hx hb hts inP hown hK hP (6 + k0) (gX_6 hk0) rfl 12 (by decide) (hts _ tw_108) (fun _ h9 => h9) rfl dG_add_78 ?_
      refine lv_if_eq (tgt := 89) hx hb dG_add_81 (by decide) (fun c26 => ?_) (fun c26 => ?_)
      · have hw := hw.1 c26
        refine lv_aload_n hx hb dG_add_89 rfl (lv_at hl 3 rfl) ?_
        refine va_get (D := D) (ci := 1) (v := .int (sF s21 6 k0)) (C := RP) (T := TP) (N := 16) hx hb hts inP hown hK hP (6 + k0) (gX_6 hk0) rfl 6 (by decide) (hts _ tw_91) (fun _ h9 => h9) rfl dG_add_90 ?_
        obtain ⟨hin27, hw⟩ := hw
        refine va_iast hx hb hK hP hD hS 5 0 gX_5 rfl hin27 dG_add_93 (fun H locs hP hD hS => ?_)
        rw [sX_5] at hP hD
        refine lv_aload_n hx hb dG_add_94 rfl (lv_at hl 2 rfl) ?_
        refine va_get (D := D) (ci := 3) (v := .ref (ad 5 0)) (C := RG) (T := TG) (N := 2) hx hb hts inG hown hK hP 3 gX_3 rfl 0 (by decide) (hts _ tw_63) (fun _ h9 => h9) rfl dG_add_95 ?_
        refine lv_iload hx hb dG_add_98 (lv_at hl 0 rfl) ?_
        refine lv_iconst (v := 4) hx hb dG_add_100 (by decide) ?_
        refine lv_iadd hx hb dG_add_101 ?_
        refine lv_iload_n hx hb dG_add_102 rfl (lv_at hl 1 rfl) ?_
        refine lv_if_eq (tgt := 113) hx hb dG_add_103 (by decide) (fun _ => ?_) (fun c9 => absurd c9 (by decide))
        refine lv_iconst (v := (-1)) hx hb dG_add_113 (by decide) ?_
        obtain ⟨hin28, hw⟩ := hw
        refine va_iast hx hb hK hP hD hS 5 0 gX_5 rfl hin28 dG_add_114 (fun H locs hP hD hS => ?_)
        rw [sX_5] at hP hD
        refine lv_aload_n hx hb dG_add_115 rfl (lv_at hl 2 rfl) ?_
        refine va_get (D := D) (ci := 3) (v := .ref (ad 5 0)) (C := RG) (T := TG) (N := 2) hx hb hts inG hown hK hP 3 gX_3 rfl 0 (by decide) (hts _ tw_63) (fun _ h9 => h9) rfl dG_add_116 ?_
        refine lv_iload hx hb dG_add_119 (lv_at hl 0 rfl) ?_
        refine lv_iconst (v := 5) hx hb dG_add_121 (by decide) ?_
        refine lv_iadd hx hb dG_add_122 ?_
        refine lv_iload_n hx hb dG_add_123 rfl (lv_at hl 1 rfl) ?_
        refine lv_if_eq (tgt := 134) hx hb dG_add_124 (by decide) (fun _ => ?_) (fun c9 => absurd c9 (by decide))
        refine lv_iconst (v := 0) hx hb dG_add_134 (by decide) ?_
        obtain ⟨hin29, hw⟩ := hw
        refine va_iast hx hb hK hP hD hS 5 0 gX_5 rfl hin29 dG_add_135 (fun H locs hP hD hS => ?_)
        rw [sX_5] at hP hD
        refine lv_aload_n hx hb dG_add_136 rfl (lv_at hl 2 rfl) ?_
        refine va_get (D := D) (ci := 3) (v := .ref (ad 5 0)) (C := RG) (T := TG) (N := 2) hx hb hts inG hown hK hP 3 gX_3 rfl 0 (by decide) (hts _ tw_63) (fun _ h9 => h9) rfl dG_add_137 ?_
        refine lv_iload hx hb dG_add_140 (lv_at hl 0 rfl) ?_
        refine lv_bipush (v := 6) hx hb dG_add_142 (by decide) ?_
        refine lv_iadd hx hb dG_add_144 ?_
        refine lv_aload_n hx hb dG_add_145 rfl (lv_at hl 3 rfl) ?_
        refine va_get (D := D) (ci := 1) (v := .int (sF s21 12 k0)) (C := RP) (T := TP) (N := 16) hx hb hts inP hown hK hP (6 + k0) (gX_6 hk0) rfl 12 (by decide) (hts _ tw_108) (fun _ h9 => h9) rfl dG_add_146 ?_
        refine lv_if_eq (tgt := 156) hx hb dG_add_149 (by decide) (fun _ => ?_) (fun c9 => absurd c26 c9)
        refine lv_aload_n hx hb dG_add_156 rfl (lv_at hl 3 rfl) ?_
        refine va_get (D := D) (ci := 1) (v := .int (sF s21 3 k0)) (C := RP) (T := TP) (N := 16) hx hb hts inP hown hK hP (6 + k0) (gX_6 hk0) rfl 3 (by decide) (hts _ tw_84) (fun _ h9 => h9) rfl dG_add_157 ?_
        obtain ⟨hin30, hw⟩ := hw
        refine va_iast hx hb hK hP hD hS 5 0 gX_5 rfl hin30 dG_add_160 (fun H locs hP hD hS => ?_)
        rw [sX_5] at hP hD
        refine lv_aload_n hx hb dG_add_161 rfl (lv_at hl 2 rfl) ?_
        refine va_get (D := D) (ci := 3) (v := .ref (ad 5 0)) (C := RG) (T := TG) (N := 2) hx hb hts inG hown hK hP 3 gX_3 rfl 0 (by decide) (hts _ tw_63) (fun _ h9 => h9) rfl dG_add_162 ?_
        refine lv_iload hx hb dG_add_165 (lv_at hl 0 rfl) ?_
        refine lv_bipush (v := 7) hx hb dG_add_167 (by decide) ?_
        refine lv_iadd hx hb dG_add_169 ?_
        refine lv_iload_n hx hb dG_add_170 rfl (lv_at hl 4 rfl) ?_
        obtain ⟨hin31, hw⟩ := hw
        refine va_iast hx hb hK hP hD hS 5 0 gX_5 rfl hin31 dG_add_171 (fun H locs hP hD hS => ?_)
        rw [sX_5] at hP hD
        refine lv_aload_n hx hb dG_add_172 rfl (lv_at hl 2 rfl) ?_
        refine lv_dup hx hb dG_add_173 rfl ?_
        refine va_get (D := D) (ci := 3) (v := .int (sG s21 4)) (C := RG) (T := TG) (N := 2) hx hb hts inG hown hK hP 3 gX_3 rfl 1 (by decide) (hts _ tw_64) (fun _ h9 => h9) rfl dG_add_174 ?_
        refine lv_iconst (v := 1) hx hb dG_add_177 (by decide) ?_
        refine lv_iadd hx hb dG_add_178 ?_
        refine va_put (D := D) (ci := 3) (v := .int ((sG s21 4) + 1)) (ty := .int) (C := RG) (T := TG) (N := 2) hx hb hts inG tyG tyG_ok nmG hown hK hP hD hS 3 gX_3 rfl 1 (by decide) (hts _ tw_64) (fun _ h9 => h9) rfl (by decide +kernel) rfl rfl (Nat.le_of_ble_eq_true rfl) dG_add_179 (fun H locs hP hD hS => ?_)
        rw [sX_3_1] at hP hD
        exact W.vret hx hb hr (fun t ht hW => ⟨⟨(uG 4 ((sG s21 4) + 1) (uA 1 (upd (upd (upd (upd (upd (upd (upd (upd (sA s21 1) (r22).toNatClampNeg (sF s21 0 k0)) (r22 + 1).toNatClampNeg (sF s21 7 k0)) (r22 + 2).toNatClampNeg (sF s21 10 k0)) (r22 + 3).toNatClampNeg (sF s21 6 k0)) (r22 + 4).toNatClampNeg (-1)) (r22 + 5).toNatClampNeg 0) (r22 + 6).toNatClampNeg (sF s21 3 k0)) (r22 + 7).toNatClampNeg a1) (uA 1 (upd (upd (upd (upd (upd (upd (upd (sA s21 1) (r22).toNatClampNeg (sF s21 0 k0)) (r22 + 1).toNatClampNeg (sF s21 7 k0)) (r22 + 2).toNatClampNeg (sF s21 10 k0)) (r22 + 3).toNatClampNeg (sF s21 6 k0)) (r22 + 4).toNatClampNeg (-1)) (r22 + 5).toNatClampNeg 0) (r22 + 6).toNatClampNeg (sF s21 3 k0)) (uA 1 (upd (upd (upd (upd (upd (upd (sA s21 1) (r22).toNatClampNeg (sF s21 0 k0)) (r22 + 1).toNatClampNeg (sF s21 7 k0)) (r22 + 2).toNatClampNeg (sF s21 10 k0)) (r22 + 3).toNatClampNeg (sF s21 6 k0)) (r22 + 4).toNatClampNeg (-1)) (r22 + 5).toNatClampNeg 0) (uA 1 (upd (upd (upd (upd (upd (sA s21 1) (r22).toNatClampNeg (sF s21 0 k0)) (r22 + 1).toNatClampNeg (sF s21 7 k0)) (r22 + 2).toNatClampNeg (sF s21 10 k0)) (r22 + 3).toNatClampNeg (sF s21 6 k0)) (r22 + 4).toNatClampNeg (-1)) (uA 1 (upd (upd (upd (upd (sA s21 1) (r22).toNatClampNeg (sF s21 0 k0)) (r22 + 1).toNatClampNeg (sF s21 7 k0)) (r22 + 2).toNatClampNeg (sF s21 10 k0)) (r22 + 3).toNatClampNeg (sF s21 6 k0)) (uA 1 (upd (upd (upd (sA s21 1) (r22).toNatClampNeg (sF s21 0 k0)) (r22 + 1).toNatClampNeg (sF s21 7 k0)) (r22 + 2).toNatClampNeg (sF s21 10 k0)) (uA 1 (upd (upd (sA s21 1) (r22).toNatClampNeg (sF s21 0 k0)) (r22 + 1).toNatClampNeg (sF s21 7 k0)) (uA 1 (upd (sA s21 1) (r22).toNatClampNeg (sF s21 0 k0)) s21))))))))), rfl, hw, by rw [ht]; exact hP, va_K.moved hW.alike hK, hD⟩, hS.F ht⟩) hS.2.2 dG_add_182
      · have hw := hw.2 c26
        refine lv_bipush (v := 6) hx hb dG_add_84 (by decide) ?_
        refine lv_goto (tgt := 93) hx hb dG_add_86 (by decide) ?_
        obtain ⟨hin32, hw⟩ := hw
        refine va_iast hx hb hK hP hD hS 5 0 gX_5 rfl hin32 dG_add_93 (fun H locs hP hD hS => ?_)
        rw [sX_5] at hP hD
        refine lv_aload_n hx hb dG_add_94 rfl (lv_at hl 2 rfl) ?_
        refine va_get (D := D) (ci := 3) (v := .ref (ad 5 0)) (C := RG) (T := TG) (N := 2) hx hb hts inG hown hK hP 3 gX_3 rfl 0 (by decide) (hts _ tw_63) (fun _ h9 => h9) rfl dG_add_95 ?_
        refine lv_iload hx hb dG_add_98 (lv_at hl 0 rfl) ?_
        refine lv_iconst (v := 4) hx hb dG_add_100 (by decide) ?_
        refine lv_iadd hx hb dG_add_101 ?_
        refine lv_iload_n hx hb dG_add_102 rfl (lv_at hl 1 rfl) ?_
        refine lv_if_eq (tgt := 113) hx hb dG_add_103 (by decide) (fun _ => ?_) (fun c9 => absurd c9 (by decide))
        refine lv_iconst (v := (-1)) hx hb dG_add_113 (by decide) ?_
        obtain ⟨hin33, hw⟩ := hw
        refine va_iast hx hb hK hP hD hS 5 0 gX_5 rfl hin33 dG_add_114 (fun H locs hP hD hS => ?_)
        rw [sX_5] at hP hD
        refine lv_aload_n hx hb dG_add_115 rfl (lv_at hl 2 rfl) ?_
        refine va_get (D := D) (ci := 3) (v := .ref (ad 5 0)) (C := RG) (T := TG) (N := 2) hx hb hts inG hown hK hP 3 gX_3 rfl 0 (by decide) (hts _ tw_63) (fun _ h9 => h9) rfl dG_add_116 ?_
        refine lv_iload hx hb dG_add_119 (lv_at hl 0 rfl) ?_
        refine lv_iconst (v := 5) hx hb dG_add_121 (by decide) ?_
        refine lv_iadd hx hb dG_add_122 ?_
        refine lv_iload_n hx hb dG_add_123 rfl (lv_at hl 1 rfl) ?_
        refine lv_if_eq (tgt := 134) hx hb dG_add_124 (by decide) (fun _ => ?_) (fun c9 => absurd c9 (by decide))
        refine lv_iconst (v := 0) hx hb dG_add_134 (by decide) ?_
        obtain ⟨hin34, hw⟩ := hw
        refine va_iast hx hb hK hP hD hS 5 0 gX_5 rfl hin34 dG_add_135 (fun H locs hP hD hS => ?_)
        rw [sX_5] at hP hD
        refine lv_aload_n hx hb dG_add_136 rfl (lv_at hl 2 rfl) ?_
        refine va_get (D := D) (ci := 3) (v := .ref (ad 5 0)) (C := RG) (T := TG) (N := 2) hx hb hts inG hown hK hP 3 gX_3 rfl 0 (by decide) (hts _ tw_63) (fun _ h9 => h9) rfl dG_add_137 ?_
        refine lv_iload hx hb dG_add_140 (lv_at hl 0 rfl) ?_
        refine lv_bipush (v := 6) hx hb dG_add_142 (by decide) ?_
        refine lv_iadd hx hb dG_add_144 ?_
        refine lv_aload_n hx hb dG_add_145 rfl (lv_at hl 3 rfl) ?_
        refine va_get (D := D) (ci := 1) (v := .int (sF s21 12 k0)) (C := RP) (T := TP) (N := 16) hx hb hts inP hown hK hP (6 + k0) (gX_6 hk0) rfl 12 (by decide) (hts _ tw_108) (fun _ h9 => h9) rfl dG_add_146 ?_
        refine lv_if_eq (tgt := 156) hx hb dG_add_149 (by decide) (fun c9 => absurd c9 c26) (fun _ => ?_)
        refine lv_iconst (v := 0) hx hb dG_add_152 (by decide) ?_
        refine lv_goto (tgt := 160) hx hb dG_add_153 (by decide) ?_
        obtain ⟨hin35, hw⟩ := hw
        refine va_iast hx hb hK hP hD hS 5 0 gX_5 rfl hin35 dG_add_160 (fun H locs hP hD hS => ?_)
        rw [sX_5] at hP hD
        refine lv_aload_n hx hb dG_add_161 rfl (lv_at hl 2 rfl) ?_
        refine va_get (D := D) (ci := 3) (v := .ref (ad 5 0)) (C := RG) (T := TG) (N := 2) hx hb hts inG hown hK hP 3 gX_3 rfl 0 (by decide) (hts _ tw_63) (fun _ h9 => h9) rfl dG_add_162 ?_
        refine lv_iload hx hb dG_add_165 (lv_at hl 0 rfl) ?_
        refine lv_bipush (v := 7) hx hb dG_add_167 (by decide) ?_
        refine lv_iadd hx hb dG_add_169 ?_
        refine lv_iload_n hx hb dG_add_170 rfl (lv_at hl 4 rfl) ?_
        obtain ⟨hin36, hw⟩ := hw
        refine va_iast hx hb hK hP hD hS 5 0 gX_5 rfl hin36 dG_add_171 (fun H locs hP hD hS => ?_)
        rw [sX_5] at hP hD
        refine lv_aload_n hx hb dG_add_172 rfl (lv_at hl 2 rfl) ?_
        refine lv_dup hx hb dG_add_173 rfl ?_
        refine va_get (D := D) (ci := 3) (v := .int (sG s21 4)) (C := RG) (T := TG) (N := 2) hx hb hts inG hown hK hP 3 gX_3 rfl 1 (by decide) (hts _ tw_64) (fun _ h9 => h9) rfl dG_add_174 ?_
        refine lv_iconst (v := 1) hx hb dG_add_177 (by decide) ?_
        refine lv_iadd hx hb dG_add_178 ?_
        refine va_put (D := D) (ci := 3) (v := .int ((sG s21 4) + 1)) (ty := .int) (C := RG) (T := TG) (N := 2) hx hb hts inG tyG tyG_ok nmG hown hK hP hD hS 3 gX_3 rfl 1 (by decide) (hts _ tw_64) (fun _ h9 => h9) rfl (by decide +kernel) rfl rfl (Nat.le_of_ble_eq_true rfl) dG_add_179 (fun H locs hP hD hS => ?_)
        rw [sX_3_1] at hP hD
        exact W.vret hx hb hr (fun t ht hW => ⟨⟨(uG 4 ((sG s21 4) + 1) (uA 1 (upd (upd (upd (upd (upd (upd (upd (upd (sA s21 1) (r22).toNatClampNeg (sF s21 0 k0)) (r22 + 1).toNatClampNeg (sF s21 7 k0)) (r22 + 2).toNatClampNeg (sF s21 10 k0)) (r22 + 3).toNatClampNeg 6) (r22 + 4).toNatClampNeg (-1)) (r22 + 5).toNatClampNeg 0) (r22 + 6).toNatClampNeg 0) (r22 + 7).toNatClampNeg a1) (uA 1 (upd (upd (upd (upd (upd (upd (upd (sA s21 1) (r22).toNatClampNeg (sF s21 0 k0)) (r22 + 1).toNatClampNeg (sF s21 7 k0)) (r22 + 2).toNatClampNeg (sF s21 10 k0)) (r22 + 3).toNatClampNeg 6) (r22 + 4).toNatClampNeg (-1)) (r22 + 5).toNatClampNeg 0) (r22 + 6).toNatClampNeg 0) (uA 1 (upd (upd (upd (upd (upd (upd (sA s21 1) (r22).toNatClampNeg (sF s21 0 k0)) (r22 + 1).toNatClampNeg (sF s21 7 k0)) (r22 + 2).toNatClampNeg (sF s21 10 k0)) (r22 + 3).toNatClampNeg 6) (r22 + 4).toNatClampNeg (-1)) (r22 + 5).toNatClampNeg 0) (uA 1 (upd (upd (upd (upd (upd (sA s21 1) (r22).toNatClampNeg (sF s21 0 k0)) (r22 + 1).toNatClampNeg (sF s21 7 k0)) (r22 + 2).toNatClampNeg (sF s21 10 k0)) (r22 + 3).toNatClampNeg 6) (r22 + 4).toNatClampNeg (-1)) (uA 1 (upd (upd (upd (upd (sA s21 1) (r22).toNatClampNeg (sF s21 0 k0)) (r22 + 1).toNatClampNeg (sF s21 7 k0)) (r22 + 2).toNatClampNeg (sF s21 10 k0)) (r22 + 3).toNatClampNeg 6) (uA 1 (upd (upd (upd (sA s21 1) (r22).toNatClampNeg (sF s21 0 k0)) (r22 + 1).toNatClampNeg (sF s21 7 k0)) (r22 + 2).toNatClampNeg (sF s21 10 k0)) (uA 1 (upd (upd (sA s21 1) (r22).toNatClampNeg (sF s21 0 k0)) (r22 + 1).toNatClampNeg (sF s21 7 k0)) (uA 1 (upd (sA s21 1) (r22).toNatClampNeg (sF s21 0 k0)) s21))))))))), rfl, hw, by rw [ht]; exact hP, va_K.moved hW.alike hK, hD⟩, hS.F ht⟩) hS.2.2 dG_add_182
    · have hw := hw.2 c20
      refine lv_iconst (v := 1) hx hb dG_add_17 (by decide) ?_
      refine lv_goto (tgt := 22) hx hb dG_add_18 (by decide) ?_
      refine lv_istore_n (lv' := [(3, .int 1), (0, .ref (ad 3 0)), (1, .ref (ad 6 k0)), (2, .int a1)]) hx hb dG_add_22 rfl hl (by decide) rfl (fun ls hl => ?_)
      refine lv_aload_n hx hb dG_add_23 rfl (lv_at hl 1 rfl) ?_
      refine va_get (D := D) (ci := 3) (v := .int (sG s18 4)) (C := RG) (T := TG) (N := 2) hx hb hts inG hown hK hP 3 gX_3 rfl 1 (by decide) (hts _ tw_64) (fun _ h9 => h9) rfl dG_add_24 ?_
      have hFc := px_free hD hS hA
      refine va_calli (va_runS (As := [.int (sG s18 4)]) (rest := []) ⟨hx, hb, hml, hown, hts⟩ (c_firstCell l D ca ad s18 (sG s18 4) _ _ hw) (va_cwS 1 hts (gS tw_183 tw_184 tw_5 tw_185) rfl rfl rfl (by decide +kernel) ⟨Nat.le_of_ble_eq_true rfl, Nat.le_of_ble_eq_true rfl⟩) ⟨px_blind, fun U hU hW => px_pre hP hK hD hE hS hFc hU hW⟩ rfl rfl hl.1 rfl (lv_room (Nat.le_of_ble_eq_true rfl)) dG_add_27 ⟨Nat.le_of_ble_eq_true rfl, Nat.le_of_ble_eq_true rfl⟩) hS (fun q _ h => hFc q h) hFc (fun r38 s37 t H locs ht hvm hw hB _ _ hS => ?_)
      obtain ⟨hP, -, hD⟩ := hB
      rw [ht] at hP
      have hD := hD.weaken (fun _ _ _ h9 => hFc _ h9)
      refine lv_istore (lv' := [(4, .int r38), (3, .int 1), (0, .ref (ad 3 0)), (1, .ref (ad 6 k0)), (2, .int a1)]) hx hb dG_add_30 hl (by decide) rfl (fun ls hl => ?_)
      refine lv_aload_n hx hb dG_add_32 rfl (lv_at hl 2 rfl) ?_
      refine va_get (D := D) (ci := 3) (v := .ref (ad 5 0)) (C := RG) (T := TG) (N := 2) hx hb hts inG hown hK hP 3 gX_3 rfl 0 (by decide) (hts _ tw_63) (fun _ h9 => h9) rfl dG_add_33 ?_
      refine lv_iload hx hb dG_add_36 (lv_at hl 0 rfl) ?_
      refine lv_aload_n hx hb dG_add_38 rfl (lv_at hl 3 rfl) ?_
      refine va_get (D := D) (ci := 1) (v := .int (sF s37 0 k0)) (C := RP) (T := TP) (N := 16) hx hb hts inP hown hK hP (6 + k0) (gX_6 hk0) rfl 0 (by decide) (hts _ tw_78) (fun _ h9 => h9) rfl dG_add_39 ?_
      obtain ⟨hin39, hw⟩ := hw
      refine va_iast hx hb hK hP hD hS 5 0 gX_5 rfl hin39 dG_add_42 (fun H locs hP hD hS => ?_)
      rw [sX_5] at hP hD
      refine lv_aload_n hx hb dG_add_43 rfl (lv_at hl 2 rfl) ?_
      refine va_get (D := D) (ci := 3) (v := .ref (ad 5 0)) (C := RG) (T := TG) (N := 2) hx hb hts inG hown hK hP 3 gX_3 rfl 0 (by decide) (hts _ tw_63) (fun _ h9 => h9) rfl dG_add_44 ?_
      refine lv_iload hx hb dG_add_47 (lv_at hl 0 rfl) ?_
      refine lv_iconst (v := 1) hx hb dG_add_49 (by decide) ?_
      refine lv_iadd hx hb dG_add_50 ?_
      refine lv_aload_n hx hb dG_add_51 rfl (lv_at hl 3 rfl) ?_
      refine va_get (D := D) (ci := 1) (v := .int (sF s37 7 k0)) (C := RP) (T := TP) (N := 16) hx hb hts inP hown hK hP (6 + k0) (gX_6 hk0) rfl 7 (by decide) (hts _ tw_94) (fun _ h9 => h9) rfl dG_add_52 ?_
      obtain ⟨hin40, hw⟩ := hw
      refine va_iast hx hb hK hP hD hS 5 0 gX_5 rfl hin40 dG_add_55 (fun H locs hP hD hS => ?_)
      rw [sX_5] at hP hD
      refine lv_aload_n hx hb dG_add_56 rfl (lv_at hl 2 rfl) ?_
      refine va_get (D := D) (ci := 3) (v := .ref (ad 5 0)) (C := RG) (T := TG) (N := 2) hx hb hts inG hown hK hP 3 gX_3 rfl 0 (by decide) (hts _ tw_63) (fun _ h9 => h9) rfl dG_add_57 ?_
      refine lv_iload hx hb dG_add_60 (lv_at hl 0 rfl) ?_
      refine lv_iconst (v := 2) hx hb dG_add_62 (by decide) ?_
      refine lv_iadd hx hb dG_add_63 ?_
      refine lv_aload_n hx hb dG_add_64 rfl (lv_at hl 3 rfl) ?_
      refine va_get (D := D) (ci := 1) (v := .int (sF s37 10 k0)) (C := RP) (T := TP) (N := 16) hx hb hts inP hown hK hP (6 + k0) (gX_6 hk0) rfl 10 (by decide) (hts _ tw_103) (fun _ h9 => h9) rfl dG_add_65 ?_
      obtain ⟨hin41, hw⟩ := hw
      refine va_iast hx hb hK hP hD hS 5 0 gX_5 rfl hin41 dG_add_68 (fun H locs hP hD hS => ?_)
      rw [sX_5] at hP hD
      refine lv_aload_n hx hb dG_add_69 rfl (lv_at hl 2 rfl) ?_
      refine va_get (D := D) (ci := 3) (v := .ref (ad 5 0)) (C := RG) (T := TG) (N := 2) hx hb hts inG hown hK hP 3 gX_3 rfl 0 (by decide) (hts _ tw_63) (fun _ h9 => h9) rfl dG_add_70 ?_
      refine lv_iload hx hb dG_add_73 (lv_at hl 0 rfl) ?_
      refine lv_iconst (v := 3) hx hb dG_add_75 (by decide) ?_
      refine lv_iadd hx hb dG_add_76 ?_
      refine lv_aload_n hx hb dG_add_77 rfl (lv_at hl 3 rfl) ?_
      refine va_get (D := D) (ci := 1) (v := .int (sF s37 12 k0)) (C := RP) (T := TP) (N := 16) hx hb hts inP hown hK hP (6 + k0) (gX_6 hk0) rfl 12 (by decide) (hts _ tw_108) (fun _ h9 => h9) rfl dG_add_78 ?_
      refine lv_if_eq (tgt := 89) hx hb dG_add_81 (by decide) (fun c42 => ?_) (fun c42 => ?_)
      · have hw := hw.1 c42
        refine lv_aload_n hx hb dG_add_89 rfl (lv_at hl 3 rfl) ?_
        refine va_get (D := D) (ci := 1) (v := .int (sF s37 6 k0)) (C := RP) (T := TP) (N := 16) hx hb hts inP hown hK hP (6 + k0) (gX_6 hk0) rfl 6 (by decide) (hts _ tw_91) (fun _ h9 => h9) rfl dG_add_90 ?_
        obtain ⟨hin43, hw⟩ := hw
        refine va_iast hx hb hK hP hD hS 5 0 gX_5 rfl hin43 dG_add_93 (fun H locs hP hD hS => ?_)
        rw [sX_5] at hP hD
        refine lv_aload_n hx hb dG_add_94 rfl (lv_at hl 2 rfl) ?_
        refine va_get (D := D) (ci := 3) (v := .ref (ad 5 0)) (C := RG) (T := TG) (N := 2) hx hb hts inG hown hK hP 3 gX_3 rfl 0 (by decide) (hts _ tw_63) (fun _ h9 => h9) rfl dG_add_95 ?_
        refine lv_iload hx hb dG_add_98 (lv_at hl 0 rfl) ?_
        refine lv_iconst (v := 4) hx hb dG_add_100 (by decide) ?_
        refine lv_iadd hx hb dG_add_101 ?_
        refine lv_iload_n hx hb dG_add_102 rfl (lv_at hl 1 rfl) ?_
        refine lv_if_eq (tgt := 113) hx hb dG_add_103 (by decide) (fun c9 => absurd c9 (by decide)) (fun _ => ?_)
        refine lv_aload_n hx hb dG_add_106 rfl (lv_at hl 3 rfl) ?_
        refine va_get (D := D) (ci := 1) (v := .int (sF s37 8 k0)) (C := RP) (T := TP) (N := 16) hx hb hts inP hown hK hP (6 + k0) (gX_6 hk0) rfl 8 (by decide) (hts _ tw_97) (fun _ h9 => h9) rfl dG_add_107 ?_
        refine lv_goto (tgt := 114) hx hb dG_add_110 (by decide) ?_
        obtain ⟨hin44, hw⟩ := hw
        refine va_iast hx hb hK hP hD hS 5 0 gX_5 rfl hin44 dG_add_114 (fun H locs hP hD hS => ?_)
        rw [sX_5] at hP hD
        refine lv_aload_n hx hb dG_add_115 rfl (lv_at hl 2 rfl) ?_
        refine va_get (D := D) (ci := 3) (v := .ref (ad 5 0)) (C := RG) (T := TG) (N := 2) hx hb hts inG hown hK hP 3 gX_3 rfl 0 (by decide) (hts _ tw_63) (fun _ h9 => h9) rfl dG_add_116 ?_
        refine lv_iload hx hb dG_add_119 (lv_at hl 0 rfl) ?_
        refine lv_iconst (v := 5) hx hb dG_add_121 (by decide) ?_
        refine lv_iadd hx hb dG_add_122 ?_
        refine lv_iload_n hx hb dG_add_123 rfl (lv_at hl 1 rfl) ?_
        refine lv_if_eq (tgt := 134) hx hb dG_add_124 (by decide) (fun c9 => absurd c9 (by decide)) (fun _ => ?_)
        refine lv_aload_n hx hb dG_add_127 rfl (lv_at hl 3 rfl) ?_
        refine va_get (D := D) (ci := 1) (v := .int (sF s37 9 k0)) (C := RP) (T := TP) (N := 16) hx hb hts inP hown hK hP (6 + k0) (gX_6 hk0) rfl 9 (by decide) (hts _ tw_100) (fun _ h9 => h9) rfl dG_add_128 ?_
        refine lv_goto (tgt := 135) hx hb dG_add_131 (by decide) ?_
        obtain ⟨hin45, hw⟩ := hw
        refine va_iast hx hb hK hP hD hS 5 0 gX_5 rfl hin45 dG_add_135 (fun H locs hP hD hS => ?_)
        rw [sX_5] at hP hD
        refine lv_aload_n hx hb dG_add_136 rfl (lv_at hl 2 rfl) ?_
        refine va_get (D := D) (ci := 3) (v := .ref (ad 5 0)) (C := RG) (T := TG) (N := 2) hx hb hts inG hown hK hP 3 gX_3 rfl 0 (by decide) (hts _ tw_63) (fun _ h9 => h9) rfl dG_add_137 ?_
        refine lv_iload hx hb dG_add_140 (lv_at hl 0 rfl) ?_
        refine lv_bipush (v := 6) hx hb dG_add_142 (by decide) ?_
        refine lv_iadd hx hb dG_add_144 ?_
        refine lv_aload_n hx hb dG_add_145 rfl (lv_at hl 3 rfl) ?_
        refine va_get (D := D) (ci := 1) (v := .int (sF s37 12 k0)) (C := RP) (T := TP) (N := 16) hx hb hts inP hown hK hP (6 + k0) (gX_6 hk0) rfl 12 (by decide) (hts _ tw_108) (fun _ h9 => h9) rfl dG_add_146 ?_
        refine lv_if_eq (tgt := 156) hx hb dG_add_149 (by decide) (fun _ => ?_) (fun c9 => absurd c42 c9)
        refine lv_aload_n hx hb dG_add_156 rfl (lv_at hl 3 rfl) ?_
        refine va_get (D := D) (ci := 1) (v := .int (sF s37 3 k0)) (C := RP) (T := TP) (N := 16) hx hb hts inP hown hK hP (6 + k0) (gX_6 hk0) rfl 3 (by decide) (hts _ tw_84) (fun _ h9 => h9) rfl dG_add_157 ?_
        obtain ⟨hin46, hw⟩ := hw
        refine va_iast hx hb hK hP hD hS 5 0 gX_5 rfl hin46 dG_add_160 (fun H locs hP hD hS => ?_)
        rw [sX_5] at hP hD
        refine lv_aload_n hx hb dG_add_161 rfl (lv_at hl 2 rfl) ?_
        refine va_get (D := D) (ci := 3) (v := .ref (ad 5 0)) (C := RG) (T := TG) (N := 2) hx hb hts inG hown hK hP 3 gX_3 rfl 0 (by decide) (hts _ tw_63) (fun _ h9 => h9) rfl dG_add_162 ?_
        refine lv_iload hx hb dG_add_165 (lv_at hl 0 rfl) ?_
        refine lv_bipush (v := 7) hx hb dG_add_167 (by decide) ?_
        refine lv_iadd hx hb dG_add_169 ?_
        refine lv_iload_n hx hb dG_add_170 rfl (lv_at hl 4 rfl) ?_
        obtain ⟨hin47, hw⟩ := hw
        refine va_iast hx hb hK hP hD hS 5 0 gX_5 rfl hin47 dG_add_171 (fun H locs hP hD hS => ?_)
        rw [sX_5] at hP hD
        refine lv_aload_n hx hb dG_add_172 rfl (lv_at hl 2 rfl) ?_
        refine lv_dup hx hb dG_add_173 rfl ?_
        refine va_get (D := D) (ci := 3) (v := .int (sG s37 4)) (C := RG) (T := TG) (N := 2) hx hb hts inG hown hK hP 3 gX_3 rfl 1 (by decide) (hts _ tw_64) (fun _ h9 => h9) rfl dG_add_174 ?_
        refine lv_iconst (v := 1) hx hb dG_add_177 (by decide) ?_
        refine lv_iadd hx hb dG_add_178 ?_
        refine va_put (D := D) (ci := 3) (v := .int ((sG s37 4) + 1)) (ty := .int) (C := RG) (T := TG) (N := 2) hx hb hts inG tyG tyG_ok nmG hown hK hP hD hS 3 gX_3 rfl 1 (by decide) (hts _ tw_64) (fun _ h9 => h9) rfl (by decide +kernel) rfl rfl (Nat.le_of_ble_eq_true rfl) dG_add_179 (fun H locs hP hD hS => ?_)
        rw [sX_3_1] at hP hD
        exact W.vret hx hb hr (fun t ht hW => ⟨⟨(uG 4 ((sG s37 4) + 1) (uA 1 (upd (upd (upd (upd (upd (upd (upd (upd (sA s37 1) (r38).toNatClampNeg (sF s37 0 k0)) (r38 + 1).toNatClampNeg (sF s37 7 k0)) (r38 + 2).toNatClampNeg (sF s37 10 k0)) (r38 + 3).toNatClampNeg (sF s37 6 k0)) (r38 + 4).toNatClampNeg (sF s37 8 k0)) (r38 + 5).toNatClampNeg (sF s37 9 k0)) (r38 + 6).toNatClampNeg (sF s37 3 k0)) (r38 + 7).toNatClampNeg a1) (uA 1 (upd (upd (upd (upd (upd (upd (upd (sA s37 1) (r38).toNatClampNeg (sF s37 0 k0)) (r38 + 1).toNatClampNeg (sF s37 7 k0)) (r38 + 2).toNatClampNeg (sF s37 10 k0)) (r38 + 3).toNatClampNeg (sF s37 6 k0)) (r38 + 4).toNatClampNeg (sF s37 8 k0)) (r38 + 5).toNatClampNeg (sF s37 9 k0)) (r38 + 6).toNatClampNeg (sF s37 3 k0)) (uA 1 (upd (upd (upd (upd (upd (upd (sA s37 1) (r38).toNatClampNeg (sF s37 0 k0)) (r38 + 1).toNatClampNeg (sF s37 7 k0)) (r38 + 2).toNatClampNeg (sF s37 10 k0)) (r38 + 3).toNatClampNeg (sF s37 6 k0)) (r38 + 4).toNatClampNeg (sF s37 8 k0)) (r38 + 5).toNatClampNeg (sF s37 9 k0)) (uA 1 (upd (upd (upd (upd (upd (sA s37 1) (r38).toNatClampNeg (sF s37 0 k0)) (r38 + 1).toNatClampNeg (sF s37 7 k0)) (r38 + 2).toNatClampNeg (sF s37 10 k0)) (r38 + 3).toNatClampNeg (sF s37 6 k0)) (r38 + 4).toNatClampNeg (sF s37 8 k0)) (uA 1 (upd (upd (upd (upd (sA s37 1) (r38).toNatClampNeg (sF s37 0 k0)) (r38 + 1).toNatClampNeg (sF s37 7 k0)) (r38 + 2).toNatClampNeg (sF s37 10 k0)) (r38 + 3).toNatClampNeg (sF s37 6 k0)) (uA 1 (upd (upd (upd (sA s37 1) (r38).toNatClampNeg (sF s37 0 k0)) (r38 + 1).toNatClampNeg (sF s37 7 k0)) (r38 + 2).toNatClampNeg (sF s37 10 k0)) (uA 1 (upd (upd (sA s37 1) (r38).toNatClampNeg (sF s37 0 k0)) (r38 + 1).toNatClampNeg (sF s37 7 k0)) (uA 1 (upd (sA s37 1) (r38).toNatClampNeg (sF s37 0 k0)) s37))))))))), rfl, hw, by rw [ht]; exact hP, va_K.moved hW.alike hK, hD⟩, hS.F ht⟩) hS.2.2 dG_add_182
      · have hw := hw.2 c42
        refine lv_bipush (v := 6) hx hb dG_add_84 (by decide) ?_
        refine lv_goto (tgt := 93) hx hb dG_add_86 (by decide) ?_
        obtain ⟨hin48, hw⟩ := hw
        refine va_iast hx hb hK hP hD hS 5 0 gX_5 rfl hin48 dG_add_93 (fun H locs hP hD hS => ?_)
        rw [sX_5] at hP hD
        refine lv_aload_n hx hb dG_add_94 rfl (lv_at hl 2 rfl) ?_
        refine va_get (D := D) (ci := 3) (v := .ref (ad 5 0)) (C := RG) (T := TG) (N := 2) hx hb hts inG hown hK hP 3 gX_3 rfl 0 (by decide) (hts _ tw_63) (fun _ h9 => h9) rfl dG_add_95 ?_
        refine lv_iload hx hb dG_add_98 (lv_at hl 0 rfl) ?_
        refine lv_iconst (v := 4) hx hb dG_add_100 (by decide) ?_
        refine lv_iadd hx hb dG_add_101 ?_
        refine lv_iload_n hx hb dG_add_102 rfl (lv_at hl 1 rfl) ?_
        refine lv_if_eq (tgt := 113) hx hb dG_add_103 (by decide) (fun c9 => absurd c9 (by decide)) (fun _ => ?_)
        refine lv_aload_n hx hb dG_add_106 rfl (lv_at hl 3 rfl) ?_
        refine va_get (D := D) (ci := 1) (v := .int (sF s37 8 k0)) (C := RP) (T := TP) (N := 16) hx hb hts inP hown hK hP (6 + k0) (gX_6 hk0) rfl 8 (by decide) (hts _ tw_97) (fun _ h9 => h9) rfl dG_add_107 ?_
        refine lv_goto (tgt := 114) hx hb dG_add_110 (by decide) ?_
        obtain ⟨hin49, hw⟩ := hw
        refine va_iast hx hb hK hP hD hS 5 0 gX_5 rfl hin49 dG_add_114 (fun H locs hP hD hS => ?_)
        rw [sX_5] at hP hD
        refine lv_aload_n hx hb dG_add_115 rfl (lv_at hl 2 rfl) ?_
        refine va_get (D := D) (ci := 3) (v := .ref (ad 5 0)) (C := RG) (T := TG) (N := 2) hx hb hts inG hown hK hP 3 gX_3 rfl 0 (by decide) (hts _ tw_63) (fun _ h9 => h9) rfl dG_add_116 ?_
        refine lv_iload hx hb dG_add_119 (lv_at hl 0 rfl) ?_
        refine lv_iconst (v := 5) hx hb dG_add_121 (by decide) ?_
        refine lv_iadd hx hb dG_add_122 ?_
        refine lv_iload_n hx hb dG_add_123 rfl (lv_at hl 1 rfl) ?_
        refine lv_if_eq (tgt := 134) hx hb dG_add_124 (by decide) (fun c9 => absurd c9 (by decide)) (fun _ => ?_)
        refine lv_aload_n hx hb dG_add_127 rfl (lv_at hl 3 rfl) ?_
        refine va_get (D := D) (ci := 1) (v := .int (sF s37 9 k0)) (C := RP) (T := TP) (N := 16) hx hb hts inP hown hK hP (6 + k0) (gX_6 hk0) rfl 9 (by decide) (hts _ tw_100) (fun _ h9 => h9) rfl dG_add_128 ?_
        refine lv_goto (tgt := 135) hx hb dG_add_131 (by decide) ?_
        obtain ⟨hin50, hw⟩ := hw
        refine va_iast hx hb hK hP hD hS 5 0 gX_5 rfl hin50 dG_add_135 (fun H locs hP hD hS => ?_)
        rw [sX_5] at hP hD
        refine lv_aload_n hx hb dG_add_136 rfl (lv_at hl 2 rfl) ?_
        refine va_get (D := D) (ci := 3) (v := .ref (ad 5 0)) (C := RG) (T := TG) (N := 2) hx hb hts inG hown hK hP 3 gX_3 rfl 0 (by decide) (hts _ tw_63) (fun _ h9 => h9) rfl dG_add_137 ?_
        refine lv_iload hx hb dG_add_140 (lv_at hl 0 rfl) ?_
        refine lv_bipush (v := 6) hx hb dG_add_142 (by decide) ?_
        refine lv_iadd hx hb dG_add_144 ?_
        refine lv_aload_n hx hb dG_add_145 rfl (lv_at hl 3 rfl) ?_
        refine va_get (D := D) (ci := 1) (v := .int (sF s37 12 k0)) (C := RP) (T := TP) (N := 16) hx hb hts inP hown hK hP (6 + k0) (gX_6 hk0) rfl 12 (by decide) (hts _ tw_108) (fun _ h9 => h9) rfl dG_add_146 ?_
        refine lv_if_eq (tgt := 156) hx hb dG_add_149 (by decide) (fun c9 => absurd c9 c42) (fun _ => ?_)
        refine lv_iconst (v := 0) hx hb dG_add_152 (by decide) ?_
        refine lv_goto (tgt := 160) hx hb dG_add_153 (by decide) ?_
        obtain ⟨hin51, hw⟩ := hw
        refine va_iast hx hb hK hP hD hS 5 0 gX_5 rfl hin51 dG_add_160 (fun H locs hP hD hS => ?_)
        rw [sX_5] at hP hD
        refine lv_aload_n hx hb dG_add_161 rfl (lv_at hl 2 rfl) ?_
        refine va_get (D := D) (ci := 3) (v := .ref (ad 5 0)) (C := RG) (T := TG) (N := 2) hx hb hts inG hown hK hP 3 gX_3 rfl 0 (by decide) (hts _ tw_63) (fun _ h9 => h9) rfl dG_add_162 ?_
        refine lv_iload hx hb dG_add_165 (lv_at hl 0 rfl) ?_
        refine lv_bipush (v := 7) hx hb dG_add_167 (by decide) ?_
        refine lv_iadd hx hb dG_add_169 ?_
        refine lv_iload_n hx hb dG_add_170 rfl (lv_at hl 4 rfl) ?_
        obtain ⟨hin52, hw⟩ := hw
        refine va_iast hx hb hK hP hD hS 5 0 gX_5 rfl hin52 dG_add_171 (fun H locs hP hD hS => ?_)
        rw [sX_5] at hP hD
        refine lv_aload_n hx hb dG_add_172 rfl (lv_at hl 2 rfl) ?_
        refine lv_dup hx hb dG_add_173 rfl ?_
        refine va_get (D := D) (ci := 3) (v := .int (sG s37 4)) (C := RG) (T := TG) (N := 2) hx hb hts inG hown hK hP 3 gX_3 rfl 1 (by decide) (hts _ tw_64) (fun _ h9 => h9) rfl dG_add_174 ?_
        refine lv_iconst (v := 1) hx hb dG_add_177 (by decide) ?_
        refine lv_iadd hx hb dG_add_178 ?_
        refine va_put (D := D) (ci := 3) (v := .int ((sG s37 4) + 1)) (ty := .int) (C := RG) (T := TG) (N := 2) hx hb hts inG tyG tyG_ok nmG hown hK hP hD hS 3 gX_3 rfl 1 (by decide) (hts _ tw_64) (fun _ h9 => h9) rfl (by decide +kernel) rfl rfl (Nat.le_of_ble_eq_true rfl) dG_add_179 (fun H locs hP hD hS => ?_)
        rw [sX_3_1] at hP hD
        exact W.vret hx hb hr (fun t ht hW => ⟨⟨(uG 4 ((sG s37 4) + 1) (uA 1 (upd (upd (upd (upd (upd (upd (upd (upd (sA s37 1) (r38).toNatClampNeg (sF s37 0 k0)) (r38 + 1).toNatClampNeg (sF s37 7 k0)) (r38 + 2).toNatClampNeg (sF s37 10 k0)) (r38 + 3).toNatClampNeg 6) (r38 + 4).toNatClampNeg (sF s37 8 k0)) (r38 + 5).toNatClampNeg (sF s37 9 k0)) (r38 + 6).toNatClampNeg 0) (r38 + 7).toNatClampNeg a1) (uA 1 (upd (upd (upd (upd (upd (upd (upd (sA s37 1) (r38).toNatClampNeg (sF s37 0 k0)) (r38 + 1).toNatClampNeg (sF s37 7 k0)) (r38 + 2).toNatClampNeg (sF s37 10 k0)) (r38 + 3).toNatClampNeg 6) (r38 + 4).toNatClampNeg (sF s37 8 k0)) (r38 + 5).toNatClampNeg (sF s37 9 k0)) (r38 + 6).toNatClampNeg 0) (uA 1 (upd (upd (upd (upd (upd (upd (sA s37 1) (r38).toNatClampNeg (sF s37 0 k0)) (r38 + 1).toNatClampNeg (sF s37 7 k0)) (r38 + 2).toNatClampNeg (sF s37 10 k0)) (r38 + 3).toNatClampNeg 6) (r38 + 4).toNatClampNeg (sF s37 8 k0)) (r38 + 5).toNatClampNeg (sF s37 9 k0)) (uA 1 (upd (upd (upd (upd (upd (sA s37 1) (r38).toNatClampNeg (sF s37 0 k0)) (r38 + 1).toNatClampNeg (sF s37 7 k0)) (r38 + 2).toNatClampNeg (sF s37 10 k0)) (r38 + 3).toNatClampNeg 6) (r38 + 4).toNatClampNeg (sF s37 8 k0)) (uA 1 (upd (upd (upd (upd (sA s37 1) (r38).toNatClampNeg (sF s37 0 k0)) (r38 + 1).toNatClampNeg (sF s37 7 k0)) (r38 + 2).toNatClampNeg (sF s37 10 k0)) (r38 + 3).toNatClampNeg 6) (uA 1 (upd (upd (upd (sA s37 1) (r38).toNatClampNeg (sF s37 0 k0)) (r38 + 1).toNatClampNeg (sF s37 7 k0)) (r38 + 2).toNatClampNeg (sF s37 10 k0)) (uA 1 (upd (upd (sA s37 1) (r38).toNatClampNeg (sF s37 0 k0)) (r38 + 1).toNatClampNeg (sF s37 7 k0)) (uA 1 (upd (sA s37 1) (r38).toNatClampNeg (sF s37 0 k0)) s37))))))))), rfl, hw, by rw [ht]; exact hP, va_K.moved hW.alike hK, hD⟩, hS.F ht⟩) hS.2.2 dG_add_182
theorem dH_abandon_0 : decode cH_abandon 0 = .ok (.aload_n 1, 1) := by decide +kernel
theorem dH_abandon_1 : decode cH_abandon 1 = .ok (.invokevirtual 78, 3) := by decide +kernel
theorem dH_abandon_4 : decode cH_abandon 4 = .ok (.ifCond .ne 4, 3) := by decide +kernel
theorem dH_abandon_7 : decode cH_abandon 7 = .ok (.return_, 1) := by decide +kernel
theorem dH_abandon_8 : decode cH_abandon 8 = .ok (.aload_n 1, 1) := by decide +kernel
theorem dH_abandon_9 : decode cH_abandon 9 = .ok (.getfield 234, 3) := by decide +kernel
theorem dH_abandon_12 : decode cH_abandon 12 = .ok (.invokestatic 100, 3) := by decide +kernel
theorem dH_abandon_15 : decode cH_abandon 15 = .ok (.ifCond .eq 18, 3) := by decide +kernel
theorem dH_abandon_18 : decode cH_abandon 18 = .ok (.aload_n 1, 1) := by decide +kernel
theorem dH_abandon_19 : decode cH_abandon 19 = .ok (.iconst (-1), 1) := by decide +kernel
theorem dH_abandon_20 : decode cH_abandon 20 = .ok (.putfield 104, 3) := by decide +kernel
theorem dH_abandon_23 : decode cH_abandon 23 = .ok (.aload_n 0, 1) := by decide +kernel
theorem dH_abandon_24 : decode cH_abandon 24 = .ok (.aload_n 1, 1) := by decide +kernel
theorem dH_abandon_25 : decode cH_abandon 25 = .ok (.iconst 2, 1) := by decide +kernel
theorem dH_abandon_26 : decode cH_abandon 26 = .ok (.iconst (-1), 1) := by decide +kernel
theorem dH_abandon_27 : decode cH_abandon 27 = .ok (.invokevirtual 134, 3) := by decide +kernel
theorem dH_abandon_30 : decode cH_abandon 30 = .ok (.goto 10, 3) := by decide +kernel
theorem dH_abandon_33 : decode cH_abandon 33 = .ok (.aload_n 0, 1) := by decide +kernel
theorem dH_abandon_34 : decode cH_abandon 34 = .ok (.aload_n 1, 1) := by decide +kernel
theorem dH_abandon_35 : decode cH_abandon 35 = .ok (.iconst 3, 1) := by decide +kernel
theorem dH_abandon_36 : decode cH_abandon 36 = .ok (.iconst (-1), 1) := by decide +kernel
theorem dH_abandon_37 : decode cH_abandon 37 = .ok (.invokevirtual 134, 3) := by decide +kernel
theorem dH_abandon_40 : decode cH_abandon 40 = .ok (.return_, 1) := by decide +kernel
def wp_abandon (post : Sg → Prop) (σ : Sg) (k0 : Nat) : Prop := wp_waits (fun r2 s1 => ((¬ (r2 = 0) → wp_isCommand (fun r5 s4 => (((r5 = 0) → wp_tell (fun s7 => post s7) s4 k0 3 (-1)) ∧ (¬ (r5 = 0) → wp_tell (fun s9 => post s9) (uF 8 k0 (-1) s4) k0 2 (-1)))) s1 (sF s1 6 k0)) ∧ ((r2 = 0) → post s1))) σ k0
set_option maxHeartbeats 4000000 in
set_option maxRecDepth 100000 in
theorem c_abandon (l : Launch) (D : va_G) (ca : Nat → ClassId) (ad : Nat → Nat → Nat) (σ : Sg) (k0 : Nat) (hk0 : k0 < 8) (sz : Nat) (post : Sg → Prop) (hw : wp_abandon post σ k0) : Met l yH_abandon wsH_abandon ({ frames := 2, cells := 0, slots := 0, locals := 45 }) (va_Pc [.ref (ad 0 0), .ref (ad 6 k0)] (preX D ca ad σ sz)) (va_Qv post (atX D ca ad (va_A (wX ca ad σ) sz)) (va_A (wX ca ad σ) sz)) 0 0 (va_A (wX ca ad σ) sz) := by
  refine Met.ofW (cc := cH_abandon) (maxL := 2) (ret := none) (by decide) rfl ?_
  intro p e s m args below meth c s₁ B hml hv
  obtain ⟨rfl, hsz, hP, hK, hD0, hE⟩ := hv
  have hx := B.exec
  have hb := B.bytes
  have hr := B.returns
  have hts : ∀ w ∈ tbG, w.before _ s = true := fun w h => atoms_spec (ws := wsH_abandon) B.pre w (List.mem_cons_of_mem _ h)
  have hown : s.vm.findClass RH = some m.cls := findClass_of_methodNamed B.named
  have hlocks := B.notSynchronized
  subst hsz
  have hD := hD0.self (sz := s.heap.size)
  generalize hAe : va_A (wX ca ad σ) s.heap.size = A at hD hE ⊢
  have hA : ∀ q : Nat, s.heap.size ≤ q → A q := fun q h => by rw [← hAe]; exact Or.inr h
  clear hAe
  have hS : va_S A s.heap s.heap [] := va_S.rf
  have hl := lv_entry ([.ref (ad 0 0), .ref (ad 6 k0)]) (n := 2) (Nat.le_of_ble_eq_true rfl)
  rw [lg_entry_eq]
  generalize (lg_sl ([.ref (ad 0 0), .ref (ad 6 k0)]) ++ List.replicate (2 - (lg_sl ([.ref (ad 0 0), .ref (ad 6 k0)])).length) Slot.unset).toArray = ls at hl ⊢
  have hl : lv_has ls 2 [(0, .ref (ad 0 0)), (1, .ref (ad 6 k0))] := hl
  unfold wp_abandon at hw
  have hP : va_P D clX (wX ca ad σ) s.heap := hP
  refine lv_aload_n hx hb dH_abandon_0 rfl (lv_at hl 1 rfl) ?_
  have hFc := px_free hD hS hA
  refine va_calli (va_runV (As := []) (rest := []) ⟨hx, hb, hml, hown, hts⟩ (c_waits l D ca ad σ k0 hk0 _ _ hw) (cwV 0 hts (gV tw_198 tw_199 tw_200 tw_6 tw_201) rfl rfl rfl (by decide +kernel) ⟨Nat.le_of_ble_eq_true rfl, Nat.le_of_ble_eq_true rfl⟩) ⟨px_blind, (px_recv hK hP (gX_6 hk0) rfl), fun U hU hW => px_pre hP hK hD hE hS hFc hU hW⟩ rfl rfl hl.1 rfl (lv_room (Nat.le_of_ble_eq_true rfl)) dH_abandon_1 ⟨Nat.le_of_ble_eq_true rfl, Nat.le_of_ble_eq_true rfl⟩) hS (fun q _ h => hFc q h) hFc (fun r2 s1 t H locs ht hvm hw hB _ _ hS => ?_)
  obtain ⟨hP, -, hD⟩ := hB
  rw [ht] at hP
  have hD := hD.weaken (fun _ _ _ h9 => hFc _ h9)
  refine lv_if_ne (tgt := 8) hx hb dH_abandon_4 (by decide) (fun c3 => ?_) (fun c3 => ?_)
  · have hw := hw.1 c3
    refine lv_aload_n hx hb dH_abandon_8 rfl (lv_at hl 1 rfl) ?_
    refine va_get (D := D) (ci := 1) (v := .int (sF s1 6 k0)) (C := RP) (T := TP) (N := 16) hx hb hts inP hown hK hP (6 + k0) (gX_6 hk0) rfl 6 (by decide) (hts _ tw_92) (fun _ h9 => h9) rfl dH_abandon_9 ?_
    have hFc := px_free hD hS hA
    refine va_calli (va_runS (As := [.int (sF s1 6 k0)]) (rest := []) ⟨hx, hb, hml, hown, hts⟩ (c_isCommand l D ca ad s1 (sF s1 6 k0) _ _ hw) (va_cwS 1 hts (gS tw_440 tw_441 tw_1 tw_442) rfl rfl rfl (by decide +kernel) ⟨Nat.le_of_ble_eq_true rfl, Nat.le_of_ble_eq_true rfl⟩) ⟨px_blind, fun U hU hW => px_pre hP hK hD hE hS hFc hU hW⟩ rfl rfl hl.1 rfl (lv_room (Nat.le_of_ble_eq_true rfl)) dH_abandon_12 ⟨Nat.le_of_ble_eq_true rfl, Nat.le_of_ble_eq_true rfl⟩) hS (fun q _ h => hFc q h) hFc (fun r5 s4 t H locs ht hvm hw hB _ _ hS => ?_)
    obtain ⟨hP, -, hD⟩ := hB
    rw [ht] at hP
    have hD := hD.weaken (fun _ _ _ h9 => hFc _ h9)
    refine lv_if_eq (tgt := 33) hx hb dH_abandon_15 (by decide) (fun c6 => ?_) (fun c6 => ?_)
    · have hw := hw.1 c6
      refine lv_aload_n hx hb dH_abandon_33 rfl (lv_at hl 0 rfl) ?_
      refine lv_aload_n hx hb dH_abandon_34 rfl (lv_at hl 1 rfl) ?_
      refine lv_iconst (v := 3) hx hb dH_abandon_35 (by decide) ?_
      refine lv_iconst (v := (-1)) hx hb dH_abandon_36 (by decide) ?_
      have hFc := px_free hD hS hA
      refine va_callv (va_runV (As := [.ref (ad 6 k0), .int 3, .int (-1)]) (rest := []) ⟨hx, hb, hml, hown, hts⟩ (c_tell l D ca ad s4 k0 hk0 3 (-1) _ _ hw) (cwV 3 hts (gV tw_455 tw_457 tp_11 tw_1 tw_458) rfl rfl rfl (by decide +kernel) ⟨Nat.le_of_ble_eq_true rfl, Nat.le_of_ble_eq_true rfl⟩) ⟨px_blind, (px_recv hK hP gX_0 rfl), fun U hU hW => px_pre hP hK hD hE hS hFc hU hW⟩ rfl rfl hl.1 rfl (lv_room (Nat.le_of_ble_eq_true rfl)) dH_abandon_37 ⟨Nat.le_of_ble_eq_true rfl, Nat.le_of_ble_eq_true rfl⟩) hS (fun q _ h => hFc q h) hFc (fun s7 t H locs ht hvm hw hB _ _ hS => ?_)
      obtain ⟨hP, -, hD⟩ := hB
      rw [ht] at hP
      have hD := hD.weaken (fun _ _ _ h9 => hFc _ h9)
      exact W.vret hx hb hr (fun t ht hW => ⟨⟨s7, rfl, hw, by rw [ht]; exact hP, va_K.moved hW.alike hK, hD⟩, hS.F ht⟩) hS.2.2 dH_abandon_40
    · have hw := hw.2 c6
      refine lv_aload_n hx hb dH_abandon_18 rfl (lv_at hl 1 rfl) ?_
      refine lv_iconst (v := (-1)) hx hb dH_abandon_19 (by decide) ?_
      refine va_put (D := D) (ci := 1) (v := .int (-1)) (ty := .int) (C := RP) (T := TP) (N := 16) hx hb hts inP tyP tyP_ok nmP hown hK hP hD hS (6 + k0) (gX_6 hk0) rfl 8 (by decide) (hts _ tw_98) (fun _ h9 => h9) rfl (by decide +kernel) rfl rfl (Nat.le_of_ble_eq_true rfl) dH_abandon_20 (fun H locs hP hD hS => ?_)
      rw [sX_6_8 hk0] at hP hD
      refine lv_aload_n hx hb dH_abandon_23 rfl (lv_at hl 0 rfl) ?_
      refine lv_aload_n hx hb dH_abandon_24 rfl (lv_at hl 1 rfl) ?_
      refine lv_iconst (v := 2) hx hb dH_abandon_25 (by decide) ?_
      refine lv_iconst (v := (-1)) hx hb dH_abandon_26 (by decide) ?_
      have hFc := px_free hD hS hA
      refine va_callv (va_runV (As := [.ref (ad 6 k0), .int 2, .int (-1)]) (rest := []) ⟨hx, hb, hml, hown, hts⟩ (c_tell l D ca ad (uF 8 k0 (-1) s4) k0 hk0 2 (-1) _ _ hw) (cwV 3 hts (gV tw_455 tw_457 tp_11 tw_1 tw_458) rfl rfl rfl (by decide +kernel) ⟨Nat.le_of_ble_eq_true rfl, Nat.le_of_ble_eq_true rfl⟩) ⟨px_blind, (px_recv hK hP gX_0 rfl), fun U hU hW => px_pre hP hK hD hE hS hFc hU hW⟩ rfl rfl hl.1 rfl (lv_room (Nat.le_of_ble_eq_true rfl)) dH_abandon_27 ⟨Nat.le_of_ble_eq_true rfl, Nat.le_of_ble_eq_true rfl⟩) hS (fun q _ h => hFc q h) hFc (fun s9 t H locs ht hvm hw hB _ _ hS => ?_)
      obtain ⟨hP, -, hD⟩ := hB
      rw [ht] at hP
      have hD := hD.weaken (fun _ _ _ h9 => hFc _ h9)
      refine lv_goto (tgt := 40) hx hb dH_abandon_30 (by decide) ?_
      exact W.vret hx hb hr (fun t ht hW => ⟨⟨s9, rfl, hw, by rw [ht]; exact hP, va_K.moved hW.alike hK, hD⟩, hS.F ht⟩) hS.2.2 dH_abandon_40
  · have hw := hw.2 c3
    exact W.vret hx hb hr (fun t ht hW => ⟨⟨s1, rfl, hw, by rw [ht]; exact hP, va_K.moved hW.alike hK, hD⟩, hS.F ht⟩) hS.2.2 dH_abandon_7
theorem dH_send_0 : decode cH_send 0 = .ok (.aload_n 1, 1) := by decide +kernel
theorem dH_send_1 : decode cH_send 1 = .ok (.dup, 1) := by decide +kernel
theorem dH_send_2 : decode cH_send 2 = .ok (.getfield 162, 3) := by decide +kernel
theorem dH_send_5 : decode cH_send 5 = .ok (.iconst 1, 1) := by decide +kernel
theorem dH_send_6 : decode cH_send 6 = .ok (.iadd, 1) := by decide +kernel
theorem dH_send_7 : decode cH_send 7 = .ok (.putfield 162, 3) := by decide +kernel
theorem dH_send_10 : decode cH_send 10 = .ok (.aload_n 1, 1) := by decide +kernel
theorem dH_send_11 : decode cH_send 11 = .ok (.getfield 162, 3) := by decide +kernel
theorem dH_send_14 : decode cH_send 14 = .ok (.bipush 40, 2) := by decide +kernel
theorem dH_send_16 : decode cH_send 16 = .ok (.if_icmp .le 9, 3) := by decide +kernel
theorem dH_send_19 : decode cH_send 19 = .ok (.aload_n 0, 1) := by decide +kernel
theorem dH_send_20 : decode cH_send 20 = .ok (.aload_n 1, 1) := by decide +kernel
theorem dH_send_21 : decode cH_send 21 = .ok (.invokevirtual 114, 3) := by decide +kernel
theorem dH_send_24 : decode cH_send 24 = .ok (.return_, 1) := by decide +kernel
theorem dH_send_25 : decode cH_send 25 = .ok (.aload_n 0, 1) := by decide +kernel
theorem dH_send_26 : decode cH_send 26 = .ok (.getfield 25, 3) := by decide +kernel
theorem dH_send_29 : decode cH_send 29 = .ok (.aload_n 1, 1) := by decide +kernel
theorem dH_send_30 : decode cH_send 30 = .ok (.aload_n 0, 1) := by decide +kernel
theorem dH_send_31 : decode cH_send 31 = .ok (.getfield 37, 3) := by decide +kernel
theorem dH_send_34 : decode cH_send 34 = .ok (.invokevirtual 235, 3) := by decide +kernel
theorem dH_send_37 : decode cH_send 37 = .ok (.aload_n 0, 1) := by decide +kernel
theorem dH_send_38 : decode cH_send 38 = .ok (.aload_n 1, 1) := by decide +kernel
theorem dH_send_39 : decode cH_send 39 = .ok (.bipush 60, 2) := by decide +kernel
theorem dH_send_41 : decode cH_send 41 = .ok (.iconst 1, 1) := by decide +kernel
theorem dH_send_42 : decode cH_send 42 = .ok (.invokevirtual 137, 3) := by decide +kernel
theorem dH_send_45 : decode cH_send 45 = .ok (.return_, 1) := by decide +kernel
def wp_send (post : Sg → Prop) (σ : Sg) (k0 : Nat) : Prop := (((((sF σ 11 k0) + 1) ≤ 40) → wp_logAdd (fun s2 => wp_makeAlarm (fun s4 => post s4) s2 k0 60 1) (uF 11 k0 ((sF σ 11 k0) + 1) σ) k0 (sG σ 1)) ∧ (¬ (((sF σ 11 k0) + 1) ≤ 40) → wp_abandon (fun s6 => post s6) (uF 11 k0 ((sF σ 11 k0) + 1) σ) k0))
set_option maxHeartbeats 4000000 in
set_option maxRecDepth 100000 in
theorem c_send (l : Launch) (D : va_G) (ca : Nat → ClassId) (ad : Nat → Nat → Nat) (σ : Sg) (k0 : Nat) (hk0 : k0 < 8) (sz : Nat) (post : Sg → Prop) (hw : wp_send post σ k0) : Met l yH_send wsH_send ({ frames := 3, cells := 0, slots := 0, locals := 66 }) (va_Pc [.ref (ad 0 0), .ref (ad 6 k0)] (preX D ca ad σ sz)) (va_Qv post (atX D ca ad (va_A (wX ca ad σ) sz)) (va_A (wX ca ad σ) sz)) 0 0 (va_A (wX ca ad σ) sz) := by
  refine Met.ofW (cc := cH_send) (maxL := 2) (ret := none) (by decide) rfl ?_
  intro p e s m args below meth c s₁ B hml hv
  obtain ⟨rfl, hsz, hP, hK, hD0, hE⟩ := hv
  have hx := B.exec
  have hb := B.bytes
  have hr := B.returns
  have hts : ∀ w ∈ tbG, w.before _ s = true := fun w h => atoms_spec (ws := wsH_send) B.pre w (List.mem_cons_of_mem _ h)
  have hown : s.vm.findClass RH = some m.cls := findClass_of_methodNamed B.named
  have hlocks := B.notSynchronized
  subst hsz
  have hD := hD0.self (sz := s.heap.size)
  generalize hAe : va_A (wX ca ad σ) s.heap.size = A at hD hE ⊢
  have hA : ∀ q : Nat, s.heap.size ≤ q → A q := fun q h => by rw [← hAe]; exact Or.inr h
  clear hAe
  have hS : va_S A s.heap s.heap [] := va_S.rf
  have hl := lv_entry ([.ref (ad 0 0), .ref (ad 6 k0)]) (n := 2) (Nat.le_of_ble_eq_true rfl)
  rw [lg_entry_eq]
  generalize (lg_sl ([.ref (ad 0 0), .ref (ad 6 k0)]) ++ List.replicate (2 - (lg_sl ([.ref (ad 0 0), .ref (ad 6 k0)])).length) Slot.unset).toArray = ls at hl ⊢
  have hl : lv_has ls 2 [(0, .ref (ad 0 0)), (1, .ref (ad 6 k0))] := hl
  unfold wp_send at hw
  have hP : va_P D clX (wX ca ad σ) s.heap := hP
  refine lv_aload_n hx hb dH_send_0 rfl (lv_at hl 1 rfl) ?_
  refine lv_dup hx hb dH_send_1 rfl ?_
  refine va_get (D := D) (ci := 1) (v := .int (sF σ 11 k0)) (C := RP) (T := TP) (N := 16) hx hb hts inP hown hK hP (6 + k0) (gX_6 hk0) rfl 11 (by decide) (hts _ tw_106) (fun _ h9 => h9) rfl dH_send_2 ?_
  refine lv_iconst (v := 1) hx hb dH_send_5 (by decide) ?_
  refine lv_iadd hx hb dH_send_6 ?_
  refine va_put (D := D) (ci := 1) (v := .int ((sF σ 11 k0) + 1)) (ty := .int) (C := RP) (T := TP) (N := 16) hx hb hts inP tyP tyP_ok nmP hown hK hP hD hS (6 + k0) (gX_6 hk0) rfl 11 (by decide) (hts _ tw_106) (fun _ h9 => h9) rfl (by decide +kernel) rfl rfl (Nat.le_of_ble_eq_true rfl) dH_send_7 (fun H locs hP hD hS => ?_)
  rw [sX_6_11 hk0] at hP hD
  refine lv_aload_n hx hb dH_send_10 rfl (lv_at hl 1 rfl) ?_
  refine va_get (D := D) (ci := 1) (v := .int ((sF σ 11 k0) + 1)) (C := RP) (T := TP) (N := 16) hx hb hts inP hown hK hP (6 + k0) (gX_6 hk0) rfl 11 (by decide) (hts _ tw_106) (fun _ h9 => h9) (congrArg (fun z9 => some (Value.int z9)) (up2_s _ 11 k0 _)) dH_send_11 ?_
  refine lv_bipush (v := 40) hx hb dH_send_14 (by decide) ?_
  refine lv_icmp_le (tgt := 25) hx hb dH_send_16 (by decide) (fun c1 => ?_) (fun c1 => ?_)
  · have hw := hw.1 c1
    refine lv_aload_n hx hb dH_send_25 rfl (lv_at hl 0 rfl) ?_
    refine va_get (D := D) (ci := 0) (v := .ref (ad 3 0)) (C := RH) (T := TH) (N := 8) hx hb hts inH hown hK hP 0 gX_0 rfl 2 (by decide) (hts _ tw_152) (fun _ h9 => h9) rfl dH_send_26 ?_
    refine lv_aload_n hx hb dH_send_29 rfl (lv_at hl 1 rfl) ?_
    refine lv_aload_n hx hb dH_send_30 rfl (lv_at hl 0 rfl) ?_
    refine va_get (D := D) (ci := 0) (v := .int (sG σ 1)) (C := RH) (T := TH) (N := 8) hx hb hts inH hown hK hP 0 gX_0 rfl 5 (by decide) (hts _ tw_155) (fun _ h9 => h9) rfl dH_send_31 ?_
    have hFc := px_free hD hS hA
    refine va_callv (va_runV (As := [.ref (ad 6 k0), .int (sG σ 1)]) (rest := []) ⟨hx, hb, hml, hown, hts⟩ (c_logAdd l D ca ad (uF 11 k0 ((sF σ 11 k0) + 1) σ) k0 hk0 (sG σ 1) _ _ hw) (cwV 2 hts (gV tw_463 tw_464 tw_465 tw_5 tw_466) rfl rfl rfl (by decide +kernel) ⟨Nat.le_of_ble_eq_true rfl, Nat.le_of_ble_eq_true rfl⟩) ⟨px_blind, (px_recv hK hP gX_3 rfl), fun U hU hW => px_pre hP hK hD hE hS hFc hU hW⟩ rfl rfl hl.1 rfl (lv_room (Nat.le_of_ble_eq_true rfl)) dH_send_34 ⟨Nat.le_of_ble_eq_true rfl, Nat.le_of_ble_eq_true rfl⟩) hS (fun q _ h => hFc q h) hFc (fun s2 t H locs ht hvm hw hB _ _ hS => ?_)
    obtain ⟨hP, -, hD⟩ := hB
    rw [ht] at hP
    have hD := hD.weaken (fun _ _ _ h9 => hFc _ h9)
    refine lv_aload_n hx hb dH_send_37 rfl (lv_at hl 0 rfl) ?_
    refine lv_aload_n hx hb dH_send_38 rfl (lv_at hl 1 rfl) ?_
    refine lv_bipush (v := 60) hx hb dH_send_39 (by decide) ?_
    refine lv_iconst (v := 1) hx hb dH_send_41 (by decide) ?_
    have hFc := px_free hD hS hA
    refine va_callv (va_runV (As := [.ref (ad 6 k0), .int 60, .int 1]) (rest := []) ⟨hx, hb, hml, hown, hts⟩ (c_makeAlarm l D ca ad s2 k0 hk0 60 1 _ _ hw) (cwV 3 hts (gV tw_468 tw_470 tp_12 tw_1 tw_471) rfl rfl rfl (by decide +kernel) ⟨Nat.le_of_ble_eq_true rfl, Nat.le_of_ble_eq_true rfl⟩) ⟨px_blind, (px_recv hK hP gX_0 rfl), fun U hU hW => px_pre hP hK hD hE hS hFc hU hW⟩ rfl rfl hl.1 rfl (lv_room (Nat.le_of_ble_eq_true rfl)) dH_send_42 ⟨Nat.le_of_ble_eq_true rfl, Nat.le_of_ble_eq_true rfl⟩) hS (fun q _ h => hFc q h) hFc (fun s4 t H locs ht hvm hw hB _ _ hS => ?_)
    obtain ⟨hP, -, hD⟩ := hB
    rw [ht] at hP
    have hD := hD.weaken (fun _ _ _ h9 => hFc _ h9)
    exact W.vret hx hb hr (fun t ht hW => ⟨⟨s4, rfl, hw, by rw [ht]; exact hP, va_K.moved hW.alike hK, hD⟩, hS.F ht⟩) hS.2.2 dH_send_45
  · have hw := hw.2 c1
    refine lv_aload_n hx hb dH_send_19 rfl (lv_at hl 0 rfl) ?_
    refine lv_aload_n hx hb dH_send_20 rfl (lv_at hl 1 rfl) ?_
    have hFc := px_free hD hS hA
    refine va_callv (va_runV (As := [.ref (ad 6 k0)]) (rest := []) ⟨hx, hb, hml, hown, hts⟩ (c_abandon l D ca ad (uF 11 k0 ((sF σ 11 k0) + 1) σ) k0 hk0 _ _ hw) (cwV 1 hts (gV tw_451 tw_453 tp_10 tw_1 tw_454) rfl rfl rfl (by decide +kernel) ⟨Nat.le_of_ble_eq_true rfl, Nat.le_of_ble_eq_true rfl⟩) ⟨px_blind, (px_recv hK hP gX_0 rfl), fun U hU hW => px_pre hP hK hD hE hS hFc hU hW⟩ rfl rfl hl.1 rfl (lv_room (Nat.le_of_ble_eq_true rfl)) dH_send_21 ⟨Nat.le_of_ble_eq_true rfl, Nat.le_of_ble_eq_true rfl⟩) hS (fun q _ h => hFc q h) hFc (fun s6 t H locs ht hvm hw hB _ _ hS => ?_)
    obtain ⟨hP, -, hD⟩ := hB
    rw [ht] at hP
    have hD := hD.weaken (fun _ _ _ h9 => hFc _ h9)
    exact W.vret hx hb hr (fun t ht hW => ⟨⟨s6, rfl, hw, by rw [ht]; exact hP, va_K.moved hW.alike hK, hD⟩, hS.F ht⟩) hS.2.2 dH_send_24
theorem dH_ring_0 : decode cH_ring 0 = .ok (.aload_n 1, 1) := by decide +kernel
theorem dH_ring_1 : decode cH_ring 1 = .ok (.getfield 165, 3) := by decide +kernel
theorem dH_ring_4 : decode cH_ring 4 = .ok (.ifCond .eq 7, 3) := by decide +kernel
theorem dH_ring_7 : decode cH_ring 7 = .ok (.aload_n 1, 1) := by decide +kernel
theorem dH_ring_8 : decode cH_ring 8 = .ok (.invokevirtual 240, 3) := by decide +kernel
theorem dH_ring_11 : decode cH_ring 11 = .ok (.aload_n 0, 1) := by decide +kernel
theorem dH_ring_12 : decode cH_ring 12 = .ok (.aload_n 1, 1) := by decide +kernel
theorem dH_ring_13 : decode cH_ring 13 = .ok (.invokevirtual 231, 3) := by decide +kernel
theorem dH_ring_16 : decode cH_ring 16 = .ok (.return_, 1) := by decide +kernel
def wp_ring (post : Sg → Prop) (σ : Sg) (k0 : Nat) : Prop := ((((sF σ 15 k0) = 0) → wp_send (fun s2 => post s2) σ k0) ∧ (¬ ((sF σ 15 k0) = 0) → wp_turnToNextServer (fun s4 => wp_send (fun s6 => post s6) s4 k0) σ k0))
set_option maxHeartbeats 4000000 in
set_option maxRecDepth 100000 in
theorem c_ring (l : Launch) (D : va_G) (ca : Nat → ClassId) (ad : Nat → Nat → Nat) (σ : Sg) (k0 : Nat) (hk0 : k0 < 8) (sz : Nat) (post : Sg → Prop) (hw : wp_ring post σ k0) : Met l yH_ring wsH_ring ({ frames := 4, cells := 0, slots := 0, locals := 87 }) (va_Pc [.ref (ad 0 0), .ref (ad 6 k0)] (preX D ca ad σ sz)) (va_Qv post (atX D ca ad (va_A (wX ca ad σ) sz)) (va_A (wX ca ad σ) sz)) 0 0 (va_A (wX ca ad σ) sz) := by
  refine Met.ofW (cc := cH_ring) (maxL := 2) (ret := none) (by decide) rfl ?_
  intro p e s m args below meth c s₁ B hml hv
  obtain ⟨rfl, hsz, hP, hK, hD0, hE⟩ := hv
  have hx := B.exec
  have hb := B.bytes
  have hr := B.returns
  have hts : ∀ w ∈ tbG, w.before _ s = true := fun w h => atoms_spec (ws := wsH_ring) B.pre w (List.mem_cons_of_mem _ h)
  have hown : s.vm.findClass RH = some m.cls := findClass_of_methodNamed B.named
  have hlocks := B.notSynchronized
  subst hsz
  have hD := hD0.self (sz := s.heap.size)
  generalize hAe : va_A (wX ca ad σ) s.heap.size = A at hD hE ⊢
  have hA : ∀ q : Nat, s.heap.size ≤ q → A q := fun q h => by rw [← hAe]; exact Or.inr h
  clear hAe
  have hS : va_S A s.heap s.heap [] := va_S.rf
  have hl := lv_entry ([.ref (ad 0 0), .ref (ad 6 k0)]) (n := 2) (Nat.le_of_ble_eq_true rfl)
  rw [lg_entry_eq]
  generalize (lg_sl ([.ref (ad 0 0), .ref (ad 6 k0)]) ++ List.replicate (2 - (lg_sl ([.ref (ad 0 0), .ref (ad 6 k0)])).length) Slot.unset).toArray = ls at hl ⊢
  have hl : lv_has ls 2 [(0, .ref (ad 0 0)), (1, .ref (ad 6 k0))] := hl
  unfold wp_ring at hw
  have hP : va_P D clX (wX ca ad σ) s.heap := hP
  refine lv_aload_n hx hb dH_ring_0 rfl (lv_at hl 1 rfl) ?_
  refine va_get (D := D) (ci := 1) (v := .int (sF σ 15 k0)) (C := RP) (T := TP) (N := 16) hx hb hts inP hown hK hP (6 + k0) (gX_6 hk0) rfl 15 (by decide) (hts _ tw_115) (fun _ h9 => h9) rfl dH_ring_1 ?_
  refine lv_if_eq (tgt := 11) hx hb dH_ring_4 (by decide) (fun c1 => ?_) (fun c1 => ?_)
  · have hw := hw.1 c1
    refine lv_aload_n hx hb dH_ring_11 rfl (lv_at hl 0 rfl) ?_
    refine lv_aload_n hx hb dH_ring_12 rfl (lv_at hl 1 rfl) ?_
    have hFc := px_free hD hS hA
    refine va_callv (va_runV (As := [.ref (ad 6 k0)]) (rest := []) ⟨hx, hb, hml, hown, hts⟩ (c_send l D ca ad σ k0 hk0 _ _ hw) (cwV 1 hts (gV tw_447 tw_449 tp_9 tw_1 tw_450) rfl rfl rfl (by decide +kernel) ⟨Nat.le_of_ble_eq_true rfl, Nat.le_of_ble_eq_true rfl⟩) ⟨px_blind, (px_recv hK hP gX_0 rfl), fun U hU hW => px_pre hP hK hD hE hS hFc hU hW⟩ rfl rfl hl.1 rfl (lv_room (Nat.le_of_ble_eq_true rfl)) dH_ring_13 ⟨Nat.le_of_ble_eq_true rfl, Nat.le_of_ble_eq_true rfl⟩) hS (fun q _ h => hFc q h) hFc (fun s2 t H locs ht hvm hw hB _ _ hS => ?_)
    obtain ⟨hP, -, hD⟩ := hB
    rw [ht] at hP
    have hD := hD.weaken (fun _ _ _ h9 => hFc _ h9)
    exact W.vret hx hb hr (fun t ht hW => ⟨⟨s2, rfl, hw, by rw [ht]; exact hP, va_K.moved hW.alike hK, hD⟩, hS.F ht⟩) hS.2.2 dH_ring_16
  · have hw := hw.2 c1
    refine lv_aload_n hx hb dH_ring_7 rfl (lv_at hl 1 rfl) ?_
    have hFc := px_free hD hS hA
    refine va_callv (va_runV (As := []) (rest := []) ⟨hx, hb, hml, hown, hts⟩ (c_turnToNextServer l D ca ad σ k0 hk0 _ _ hw) (cwV 0 hts (gV tw_507 tw_508 tw_509 tw_6 tw_510) rfl rfl rfl (by decide +kernel) ⟨Nat.le_of_ble_eq_true rfl, Nat.le_of_ble_eq_true rfl⟩) ⟨px_blind, (px_recv hK hP (gX_6 hk0) rfl), fun U hU hW => px_pre hP hK hD hE hS hFc hU hW⟩ rfl rfl hl.1 rfl (lv_room (Nat.le_of_ble_eq_true rfl)) dH_ring_8 ⟨Nat.le_of_ble_eq_true rfl, Nat.le_of_ble_eq_true rfl⟩) hS (fun q _ h => hFc q h) hFc (fun s4 t H locs ht hvm hw hB _ _ hS => ?_)
    obtain ⟨hP, -, hD⟩ := hB
    rw [ht] at hP
    have hD := hD.weaken (fun _ _ _ h9 => hFc _ h9)
    refine lv_aload_n hx hb dH_ring_11 rfl (lv_at hl 0 rfl) ?_
    refine lv_aload_n hx hb dH_ring_12 rfl (lv_at hl 1 rfl) ?_
    have hFc := px_free hD hS hA
    refine va_callv (va_runV (As := [.ref (ad 6 k0)]) (rest := []) ⟨hx, hb, hml, hown, hts⟩ (c_send l D ca ad s4 k0 hk0 _ _ hw) (cwV 1 hts (gV tw_447 tw_449 tp_9 tw_1 tw_450) rfl rfl rfl (by decide +kernel) ⟨Nat.le_of_ble_eq_true rfl, Nat.le_of_ble_eq_true rfl⟩) ⟨px_blind, (px_recv hK hP gX_0 rfl), fun U hU hW => px_pre hP hK hD hE hS hFc hU hW⟩ rfl rfl hl.1 rfl (lv_room (Nat.le_of_ble_eq_true rfl)) dH_ring_13 ⟨Nat.le_of_ble_eq_true rfl, Nat.le_of_ble_eq_true rfl⟩) hS (fun q _ h => hFc q h) hFc (fun s6 t H locs ht hvm hw hB _ _ hS => ?_)
    obtain ⟨hP, -, hD⟩ := hB
    rw [ht] at hP
    have hD := hD.weaken (fun _ _ _ h9 => hFc _ h9)
    exact W.vret hx hb hr (fun t ht hW => ⟨⟨s6, rfl, hw, by rw [ht]; exact hP, va_K.moved hW.alike hK, hD⟩, hS.F ht⟩) hS.2.2 dH_ring_16
theorem dH_requestOpen_0 : decode cH_requestOpen 0 = .ok (.aload_n 1, 1) := by decide +kernel
theorem dH_requestOpen_1 : decode cH_requestOpen 1 = .ok (.iconst 1, 1) := by decide +kernel
theorem dH_requestOpen_2 : decode cH_requestOpen 2 = .ok (.putfield 169, 3) := by decide +kernel
theorem dH_requestOpen_5 : decode cH_requestOpen 5 = .ok (.aload_n 1, 1) := by decide +kernel
theorem dH_requestOpen_6 : decode cH_requestOpen 6 = .ok (.dup, 1) := by decide +kernel
theorem dH_requestOpen_7 : decode cH_requestOpen 7 = .ok (.getfield 123, 3) := by decide +kernel
theorem dH_requestOpen_10 : decode cH_requestOpen 10 = .ok (.iconst 1, 1) := by decide +kernel
theorem dH_requestOpen_11 : decode cH_requestOpen 11 = .ok (.iadd, 1) := by decide +kernel
theorem dH_requestOpen_12 : decode cH_requestOpen 12 = .ok (.putfield 123, 3) := by decide +kernel
theorem dH_requestOpen_15 : decode cH_requestOpen 15 = .ok (.aload_n 0, 1) := by decide +kernel
theorem dH_requestOpen_16 : decode cH_requestOpen 16 = .ok (.aload_n 1, 1) := by decide +kernel
theorem dH_requestOpen_17 : decode cH_requestOpen 17 = .ok (.invokevirtual 231, 3) := by decide +kernel
theorem dH_requestOpen_20 : decode cH_requestOpen 20 = .ok (.return_, 1) := by decide +kernel
def wp_requestOpen (post : Sg → Prop) (σ : Sg) (k0 : Nat) : Prop := wp_send (fun s1 => post s1) (uF 10 k0 ((sF σ 10 k0) + 1) (uF 12 k0 1 σ)) k0
set_option maxHeartbeats 4000000 in
set_option maxRecDepth 100000 in
theorem c_requestOpen (l : Launch) (D : va_G) (ca : Nat → ClassId) (ad : Nat → Nat → Nat) (σ : Sg) (k0 : Nat) (hk0 : k0 < 8) (sz : Nat) (post : Sg → Prop) (hw : wp_requestOpen post σ k0) : Met l yH_requestOpen wsH_requestOpen ({ frames := 4, cells := 0, slots := 0, locals := 87 }) (va_Pc [.ref (ad 0 0), .ref (ad 6 k0)] (preX D ca ad σ sz)) (va_Qv post (atX D ca ad (va_A (wX ca ad σ) sz)) (va_A (wX ca ad σ) sz)) 0 0 (va_A (wX ca ad σ) sz) := by
  refine Met.ofW (cc := cH_requestOpen) (maxL := 2) (ret := none) (by decide) rfl ?_
  intro p e s m args below meth c s₁ B hml hv
  obtain ⟨rfl, hsz, hP, hK, hD0, hE⟩ := hv
  have hx := B.exec
  have hb := B.bytes
  have hr := B.returns
  have hts : ∀ w ∈ tbG, w.before _ s = true := fun w h => atoms_spec (ws := wsH_requestOpen) B.pre w (List.mem_cons_of_mem _ h)
  have hown : s.vm.findClass RH = some m.cls := findClass_of_methodNamed B.named
  have hlocks := B.notSynchronized
  subst hsz
  have hD := hD0.self (sz := s.heap.size)
  generalize hAe : va_A (wX ca ad σ) s.heap.size = A at hD hE ⊢
  have hA : ∀ q : Nat, s.heap.size ≤ q → A q := fun q h => by rw [← hAe]; exact Or.inr h
  clear hAe
  have hS : va_S A s.heap s.heap [] := va_S.rf
  have hl := lv_entry ([.ref (ad 0 0), .ref (ad 6 k0)]) (n := 2) (Nat.le_of_ble_eq_true rfl)
  rw [lg_entry_eq]
  generalize (lg_sl ([.ref (ad 0 0), .ref (ad 6 k0)]) ++ List.replicate (2 - (lg_sl ([.ref (ad 0 0), .ref (ad 6 k0)])).length) Slot.unset).toArray = ls at hl ⊢
  have hl : lv_has ls 2 [(0, .ref (ad 0 0)), (1, .ref (ad 6 k0))] := hl
  unfold wp_requestOpen at hw
  have hP : va_P D clX (wX ca ad σ) s.heap := hP
  refine lv_aload_n hx hb dH_requestOpen_0 rfl (lv_at hl 1 rfl) ?_
  refine lv_iconst (v := 1) hx hb dH_requestOpen_1 (by decide) ?_
  refine va_put (D := D) (ci := 1) (v := .int 1) (ty := .boolean) (C := RP) (T := TP) (N := 16) hx hb hts inP tyP tyP_ok nmP hown hK hP hD hS (6 + k0) (gX_6 hk0) rfl 12 (by decide) (hts _ tw_109) (fun _ h9 => h9) rfl (by decide +kernel) (by decide) (by decide) (Nat.le_of_ble_eq_true rfl) dH_requestOpen_2 (fun H locs hP hD hS => ?_)
  rw [sX_6_12 hk0] at hP hD
  refine lv_aload_n hx hb dH_requestOpen_5 rfl (lv_at hl 1 rfl) ?_
  refine lv_dup hx hb dH_requestOpen_6 rfl ?_
  refine va_get (D := D) (ci := 1) (v := .int (sF σ 10 k0)) (C := RP) (T := TP) (N := 16) hx hb hts inP hown hK hP (6 + k0) (gX_6 hk0) rfl 10 (by decide) (hts _ tw_104) (fun _ h9 => h9) rfl dH_requestOpen_7 ?_
  refine lv_iconst (v := 1) hx hb dH_requestOpen_10 (by decide) ?_
  refine lv_iadd hx hb dH_requestOpen_11 ?_
  refine va_put (D := D) (ci := 1) (v := .int ((sF σ 10 k0) + 1)) (ty := .int) (C := RP) (T := TP) (N := 16) hx hb hts inP tyP tyP_ok nmP hown hK hP hD hS (6 + k0) (gX_6 hk0) rfl 10 (by decide) (hts _ tw_104) (fun _ h9 => h9) rfl (by decide +kernel) rfl rfl (Nat.le_of_ble_eq_true rfl) dH_requestOpen_12 (fun H locs hP hD hS => ?_)
  rw [sX_6_10 hk0] at hP hD
  refine lv_aload_n hx hb dH_requestOpen_15 rfl (lv_at hl 0 rfl) ?_
  refine lv_aload_n hx hb dH_requestOpen_16 rfl (lv_at hl 1 rfl) ?_
  have hFc := px_free hD hS hA
  refine va_callv (va_runV (As := [.ref (ad 6 k0)]) (rest := []) ⟨hx, hb, hml, hown, hts⟩ (c_send l D ca ad (uF 10 k0 ((sF σ 10 k0) + 1) (uF 12 k0 1 σ)) k0 hk0 _ _ hw) (cwV 1 hts (gV tw_447 tw_449 tp_9 tw_1 tw_450) rfl rfl rfl (by decide +kernel) ⟨Nat.le_of_ble_eq_true rfl, Nat.le_of_ble_eq_true rfl⟩) ⟨px_blind, (px_recv hK hP gX_0 rfl), fun U hU hW => px_pre hP hK hD hE hS hFc hU hW⟩ rfl rfl hl.1 rfl (lv_room (Nat.le_of_ble_eq_true rfl)) dH_requestOpen_17 ⟨Nat.le_of_ble_eq_true rfl, Nat.le_of_ble_eq_true rfl⟩) hS (fun q _ h => hFc q h) hFc (fun s1 t H locs ht hvm hw hB _ _ hS => ?_)
  obtain ⟨hP, -, hD⟩ := hB
  rw [ht] at hP
  have hD := hD.weaken (fun _ _ _ h9 => hFc _ h9)
  exact W.vret hx hb hr (fun t ht hW => ⟨⟨s1, rfl, hw, by rw [ht]; exact hP, va_K.moved hW.alike hK, hD⟩, hS.F ht⟩) hS.2.2 dH_requestOpen_20
theorem dH_requestWhatWasAsked_0 : decode cH_requestWhatWasAsked 0 = .ok (.aload_n 1, 1) := by decide +kernel
theorem dH_requestWhatWasAsked_1 : decode cH_requestWhatWasAsked 1 = .ok (.iconst 0, 1) := by decide +kernel
theorem dH_requestWhatWasAsked_2 : decode cH_requestWhatWasAsked 2 = .ok (.putfield 169, 3) := by decide +kernel
theorem dH_requestWhatWasAsked_5 : decode cH_requestWhatWasAsked 5 = .ok (.aload_n 1, 1) := by decide +kernel
theorem dH_requestWhatWasAsked_6 : decode cH_requestWhatWasAsked 6 = .ok (.dup, 1) := by decide +kernel
theorem dH_requestWhatWasAsked_7 : decode cH_requestWhatWasAsked 7 = .ok (.getfield 123, 3) := by decide +kernel
theorem dH_requestWhatWasAsked_10 : decode cH_requestWhatWasAsked 10 = .ok (.iconst 1, 1) := by decide +kernel
theorem dH_requestWhatWasAsked_11 : decode cH_requestWhatWasAsked 11 = .ok (.iadd, 1) := by decide +kernel
theorem dH_requestWhatWasAsked_12 : decode cH_requestWhatWasAsked 12 = .ok (.putfield 123, 3) := by decide +kernel
theorem dH_requestWhatWasAsked_15 : decode cH_requestWhatWasAsked 15 = .ok (.aload_n 1, 1) := by decide +kernel
theorem dH_requestWhatWasAsked_16 : decode cH_requestWhatWasAsked 16 = .ok (.getfield 234, 3) := by decide +kernel
theorem dH_requestWhatWasAsked_19 : decode cH_requestWhatWasAsked 19 = .ok (.invokestatic 100, 3) := by decide +kernel
theorem dH_requestWhatWasAsked_22 : decode cH_requestWhatWasAsked 22 = .ok (.ifCond .eq 13, 3) := by decide +kernel
theorem dH_requestWhatWasAsked_25 : decode cH_requestWhatWasAsked 25 = .ok (.aload_n 1, 1) := by decide +kernel
theorem dH_requestWhatWasAsked_26 : decode cH_requestWhatWasAsked 26 = .ok (.dup, 1) := by decide +kernel
theorem dH_requestWhatWasAsked_27 : decode cH_requestWhatWasAsked 27 = .ok (.getfield 159, 3) := by decide +kernel
theorem dH_requestWhatWasAsked_30 : decode cH_requestWhatWasAsked 30 = .ok (.iconst 1, 1) := by decide +kernel
theorem dH_requestWhatWasAsked_31 : decode cH_requestWhatWasAsked 31 = .ok (.iadd, 1) := by decide +kernel
theorem dH_requestWhatWasAsked_32 : decode cH_requestWhatWasAsked 32 = .ok (.putfield 159, 3) := by decide +kernel
theorem dH_requestWhatWasAsked_35 : decode cH_requestWhatWasAsked 35 = .ok (.aload_n 0, 1) := by decide +kernel
theorem dH_requestWhatWasAsked_36 : decode cH_requestWhatWasAsked 36 = .ok (.aload_n 1, 1) := by decide +kernel
theorem dH_requestWhatWasAsked_37 : decode cH_requestWhatWasAsked 37 = .ok (.invokevirtual 231, 3) := by decide +kernel
theorem dH_requestWhatWasAsked_40 : decode cH_requestWhatWasAsked 40 = .ok (.return_, 1) := by decide +kernel
def wp_requestWhatWasAsked (post : Sg → Prop) (σ : Sg) (k0 : Nat) : Prop := wp_isCommand (fun r2 s1 => (((r2 = 0) → wp_send (fun s4 => post s4) s1 k0) ∧ (¬ (r2 = 0) → wp_send (fun s6 => post s6) (uF 9 k0 ((sF s1 9 k0) + 1) s1) k0))) (uF 10 k0 ((sF σ 10 k0) + 1) (uF 12 k0 0 σ)) (sF σ 6 k0)
set_option maxHeartbeats 4000000 in
set_option maxRecDepth 100000 in
theorem c_requestWhatWasAsked (l : Launch) (D : va_G) (ca : Nat → ClassId) (ad : Nat → Nat → Nat) (σ : Sg) (k0 : Nat) (hk0 : k0 < 8) (sz : Nat) (post : Sg → Prop) (hw : wp_requestWhatWasAsked post σ k0) : Met l yH_requestWhatWasAsked wsH_requestWhatWasAsked ({ frames := 4, cells := 0, slots := 0, locals := 87 }) (va_Pc [.ref (ad 0 0), .ref (ad 6 k0)] (preX D ca ad σ sz)) (va_Qv post (atX D ca ad (va_A (wX ca ad σ) sz)) (va_A (wX ca ad σ) sz)) 0 0 (va_A (wX ca ad σ) sz) := by
  refine Met.ofW (cc := cH_requestWhatWasAsked) (maxL := 2) (ret := none) (by decide) rfl ?_
  intro p e s m args below meth c s₁ B hml hv
  obtain ⟨rfl, hsz, hP, hK, hD0, hE⟩ := hv
  have hx := B.exec
  have hb := B.bytes
  have hr := B.returns
  have hts : ∀ w ∈ tbG, w.before _ s = true := fun w h => atoms_spec (ws := wsH_requestWhatWasAsked) B.pre w (List.mem_cons_of_mem _ h)
  have hown : s.vm.findClass RH = some m.cls := findClass_of_methodNamed B.named
  have hlocks := B.notSynchronized
  subst hsz
  have hD := hD0.self (sz := s.heap.size)
  generalize hAe : va_A (wX ca ad σ) s.heap.size = A at hD hE ⊢
  have hA : ∀ q : Nat, s.heap.size ≤ q → A q := fun q h => by rw [← hAe]; exact Or.inr h
  clear hAe
  have hS : va_S A s.heap s.heap [] := va_S.rf
  have hl := lv_entry ([.ref (ad 0 0), .ref (ad 6 k0)]) (n := 2) (Nat.le_of_ble_eq_true rfl)
  rw [lg_entry_eq]
  generalize (lg_sl ([.ref (ad 0 0), .ref (ad 6 k0)]) ++ List.replicate (2 - (lg_sl ([.ref (ad 0 0), .ref (ad 6 k0)])).length) Slot.unset).toArray = ls at hl ⊢
  have hl : lv_has ls 2 [(0, .ref (ad 0 0)), (1, .ref (ad 6 k0))] := hl
  unfold wp_requestWhatWasAsked at hw
  have hP : va_P D clX (wX ca ad σ) s.heap := hP
  refine lv_aload_n hx hb dH_requestWhatWasAsked_0 rfl (lv_at hl 1 rfl) ?_
  refine lv_iconst (v := 0) hx hb dH_requestWhatWasAsked_1 (by decide) ?_
  refine va_put (D := D) (ci := 1) (v := .int 0) (ty := .boolean) (C := RP) (T := TP) (N := 16) hx hb hts inP tyP tyP_ok nmP hown hK hP hD hS (6 + k0) (gX_6 hk0) rfl 12 (by decide) (hts _ tw_109) (fun _ h9 => h9) rfl (by decide +kernel) (by decide) (by decide) (Nat.le_of_ble_eq_true rfl) dH_requestWhatWasAsked_2 (fun H locs hP hD hS => ?_)
  rw [sX_6_12 hk0] at hP hD
  refine lv_aload_n hx hb dH_requestWhatWasAsked_5 rfl (lv_at hl 1 rfl) ?_
  refine lv_dup hx hb dH_requestWhatWasAsked_6 rfl ?_
  refine va_get (D := D) (ci := 1) (v := .int (sF σ 10 k0)) (C := RP) (T := TP) (N := 16) hx hb hts inP hown hK hP (6 + k0) (gX_6 hk0) rfl 10 (by decide) (hts _ tw_104) (fun _ h9 => h9) rfl dH_requestWhatWasAsked_7 ?_
  refine lv_iconst (v := 1) hx hb dH_requestWhatWasAsked_10 (by decide) ?_
  refine lv_iadd hx hb dH_requestWhatWasAsked_11 ?_
  refine va_put (D := D) (ci := 1) (v := .int ((sF σ 10 k0) + 1)) (ty := .int) (C := RP) (T := TP) (N := 16) hx hb hts inP tyP tyP_ok nmP hown hK hP hD hS (6 + k0) (gX_6 hk0) rfl 10 (by decide) (hts _ tw_104) (fun _ h9 => h9) rfl (by decide +kernel) rfl rfl (Nat.le_of_ble_eq_true rfl) dH_requestWhatWasAsked_12 (fun H locs hP hD hS => ?_)
  rw [sX_6_10 hk0] at hP hD
  refine lv_aload_n hx hb dH_requestWhatWasAsked_15 rfl (lv_at hl 1 rfl) ?_
  refine va_get (D := D) (ci := 1) (v := .int (sF σ 6 k0)) (C := RP) (T := TP) (N := 16) hx hb hts inP hown hK hP (6 + k0) (gX_6 hk0) rfl 6 (by decide) (hts _ tw_92) (fun _ h9 => h9) rfl dH_requestWhatWasAsked_16 ?_
  have hFc := px_free hD hS hA
  refine va_calli (va_runS (As := [.int (sF σ 6 k0)]) (rest := []) ⟨hx, hb, hml, hown, hts⟩ (c_isCommand l D ca ad (uF 10 k0 ((sF σ 10 k0) + 1) (uF 12 k0 0 σ)) (sF σ 6 k0) _ _ hw) (va_cwS 1 hts (gS tw_440 tw_441 tw_1 tw_442) rfl rfl rfl (by decide +kernel) ⟨Nat.le_of_ble_eq_true rfl, Nat.le_of_ble_eq_true rfl⟩) ⟨px_blind, fun U hU hW => px_pre hP hK hD hE hS hFc hU hW⟩ rfl rfl hl.1 rfl (lv_room (Nat.le_of_ble_eq_true rfl)) dH_requestWhatWasAsked_19 ⟨Nat.le_of_ble_eq_true rfl, Nat.le_of_ble_eq_true rfl⟩) hS (fun q _ h => hFc q h) hFc (fun r2 s1 t H locs ht hvm hw hB _ _ hS => ?_)
  obtain ⟨hP, -, hD⟩ := hB
  rw [ht] at hP
  have hD := hD.weaken (fun _ _ _ h9 => hFc _ h9)
  refine lv_if_eq (tgt := 35) hx hb dH_requestWhatWasAsked_22 (by decide) (fun c3 => ?_) (fun c3 => ?_)
  · have hw := hw.1 c3
    refine lv_aload_n hx hb dH_requestWhatWasAsked_35 rfl (lv_at hl 0 rfl) ?_
    refine lv_aload_n hx hb dH_requestWhatWasAsked_36 rfl (lv_at hl 1 rfl) ?_
    have hFc := px_free hD hS hA
    refine va_callv (va_runV (As := [.ref (ad 6 k0)]) (rest := []) ⟨hx, hb, hml, hown, hts⟩ (c_send l D ca ad s1 k0 hk0 _ _ hw) (cwV 1 hts (gV tw_447 tw_449 tp_9 tw_1 tw_450) rfl rfl rfl (by decide +kernel) ⟨Nat.le_of_ble_eq_true rfl, Nat.le_of_ble_eq_true rfl⟩) ⟨px_blind, (px_recv hK hP gX_0 rfl), fun U hU hW => px_pre hP hK hD hE hS hFc hU hW⟩ rfl rfl hl.1 rfl (lv_room (Nat.le_of_ble_eq_true rfl)) dH_requestWhatWasAsked_37 ⟨Nat.le_of_ble_eq_true rfl, Nat.le_of_ble_eq_true rfl⟩) hS (fun q _ h => hFc q h) hFc (fun s4 t H locs ht hvm hw hB _ _ hS => ?_)
    obtain ⟨hP, -, hD⟩ := hB
    rw [ht] at hP
    have hD := hD.weaken (fun _ _ _ h9 => hFc _ h9)
    exact W.vret hx hb hr (fun t ht hW => ⟨⟨s4, rfl, hw, by rw [ht]; exact hP, va_K.moved hW.alike hK, hD⟩, hS.F ht⟩) hS.2.2 dH_requestWhatWasAsked_40
  · have hw := hw.2 c3
    refine lv_aload_n hx hb dH_requestWhatWasAsked_25 rfl (lv_at hl 1 rfl) ?_
    refine lv_dup hx hb dH_requestWhatWasAsked_26 rfl ?_
    refine va_get (D := D) (ci := 1) (v := .int (sF s1 9 k0)) (C := RP) (T := TP) (N := 16) hx hb hts inP hown hK hP (6 + k0) (gX_6 hk0) rfl 9 (by decide) (hts _ tw_101) (fun _ h9 => h9) rfl dH_requestWhatWasAsked_27 ?_
    refine lv_iconst (v := 1) hx hb dH_requestWhatWasAsked_30 (by decide) ?_
    refine lv_iadd hx hb dH_requestWhatWasAsked_31 ?_
    refine va_put (D := D) (ci := 1) (v := .int ((sF s1 9 k0) + 1)) (ty := .int) (C := RP) (T := TP) (N := 16) hx hb hts inP tyP tyP_ok nmP hown hK hP hD hS (6 + k0) (gX_6 hk0) rfl 9 (by decide) (hts _ tw_101) (fun _ h9 => h9) rfl (by decide +kernel) rfl rfl (Nat.le_of_ble_eq_true rfl) dH_requestWhatWasAsked_32 (fun H locs hP hD hS => ?_)
    rw [sX_6_9 hk0] at hP hD
    refine lv_aload_n hx hb dH_requestWhatWasAsked_35 rfl (lv_at hl 0 rfl) ?_
    refine lv_aload_n hx hb dH_requestWhatWasAsked_36 rfl (lv_at hl 1 rfl) ?_
    have hFc := px_free hD hS hA
    refine va_callv (va_runV (As := [.ref (ad 6 k0)]) (rest := []) ⟨hx, hb, hml, hown, hts⟩ (c_send l D ca ad (uF 9 k0 ((sF s1 9 k0) + 1) s1) k0 hk0 _ _ hw) (cwV 1 hts (gV tw_447 tw_449 tp_9 tw_1 tw_450) rfl rfl rfl (by decide +kernel) ⟨Nat.le_of_ble_eq_true rfl, Nat.le_of_ble_eq_true rfl⟩) ⟨px_blind, (px_recv hK hP gX_0 rfl), fun U hU hW => px_pre hP hK hD hE hS hFc hU hW⟩ rfl rfl hl.1 rfl (lv_room (Nat.le_of_ble_eq_true rfl)) dH_requestWhatWasAsked_37 ⟨Nat.le_of_ble_eq_true rfl, Nat.le_of_ble_eq_true rfl⟩) hS (fun q _ h => hFc q h) hFc (fun s6 t H locs ht hvm hw hB _ _ hS => ?_)
    obtain ⟨hP, -, hD⟩ := hB
    rw [ht] at hP
    have hD := hD.weaken (fun _ _ _ h9 => hFc _ h9)
    exact W.vret hx hb hr (fun t ht hW => ⟨⟨s6, rfl, hw, by rw [ht]; exact hP, va_K.moved hW.alike hK, hD⟩, hS.F ht⟩) hS.2.2 dH_requestWhatWasAsked_40
theorem dH_howManyWait_0 : decode cH_howManyWait 0 = .ok (.iconst 0, 1) := by decide +kernel
theorem dH_howManyWait_1 : decode cH_howManyWait 1 = .ok (.istore_n 1, 1) := by decide +kernel
theorem dH_howManyWait_2 : decode cH_howManyWait 2 = .ok (.iconst 0, 1) := by decide +kernel
theorem dH_howManyWait_3 : decode cH_howManyWait 3 = .ok (.istore_n 2, 1) := by decide +kernel
theorem dH_howManyWait_4 : decode cH_howManyWait 4 = .ok (.iload_n 2, 1) := by decide +kernel
theorem dH_howManyWait_5 : decode cH_howManyWait 5 = .ok (.bipush 8, 2) := by decide +kernel
theorem dH_howManyWait_7 : decode cH_howManyWait 7 = .ok (.if_icmp .ge 24, 3) := by decide +kernel
theorem dH_howManyWait_10 : decode cH_howManyWait 10 = .ok (.iload_n 1, 1) := by decide +kernel
theorem dH_howManyWait_11 : decode cH_howManyWait 11 = .ok (.aload_n 0, 1) := by decide +kernel
theorem dH_howManyWait_12 : decode cH_howManyWait 12 = .ok (.getfield 11, 3) := by decide +kernel
theorem dH_howManyWait_15 : decode cH_howManyWait 15 = .ok (.iload_n 2, 1) := by decide +kernel
theorem dH_howManyWait_16 : decode cH_howManyWait 16 = .ok (.aaload, 1) := by decide +kernel
theorem dH_howManyWait_17 : decode cH_howManyWait 17 = .ok (.invokevirtual 78, 3) := by decide +kernel
theorem dH_howManyWait_20 : decode cH_howManyWait 20 = .ok (.invokestatic 152, 3) := by decide +kernel
theorem dH_howManyWait_23 : decode cH_howManyWait 23 = .ok (.iadd, 1) := by decide +kernel
theorem dH_howManyWait_24 : decode cH_howManyWait 24 = .ok (.istore_n 1, 1) := by decide +kernel
theorem dH_howManyWait_25 : decode cH_howManyWait 25 = .ok (.iinc 2 1, 3) := by decide +kernel
theorem dH_howManyWait_28 : decode cH_howManyWait 28 = .ok (.goto (-24), 3) := by decide +kernel
theorem dH_howManyWait_31 : decode cH_howManyWait 31 = .ok (.iload_n 1, 1) := by decide +kernel
theorem dH_howManyWait_32 : decode cH_howManyWait 32 = .ok (.ireturn, 1) := by decide +kernel
def wpl_howManyWait_L4 : Nat → (Int32 → Sg → Prop) → Sg → Int32 → Int32 → Prop
  | 0, _, _, _, _ => False
  | n + 1, post, σ, x1, x2 => (((8 ≤ x2) → post x1 σ) ∧ (¬ (8 ≤ x2) → (vp_in x2 8 ∧ wp_waits (fun r5 s4 => wp_asInt (fun r7 s6 => wpl_howManyWait_L4 n post s6 (x1 + r7) (x2 + 1)) s4 r5) σ ((x2).toNatClampNeg))))
set_option maxHeartbeats 4000000 in
set_option maxRecDepth 100000 in
theorem l_howManyWait_L4 {p : Program} {l : Launch} {e : Env} {s : State} {m : MethodId} {args : Array Value} {below : List Frame} {meth : Method} {c : Code} {D : va_G} {ca : Nat → ClassId} {ad : Nat → Nat → Nat} {A : Nat → Prop}  {post : Int32 → Sg → Prop} (hx : p.tables.exec = Jvm.exec) (hb : c.code = cH_howManyWait) (hr : meth.sig.returnType = (some .int)) (hml : c.maxLocals = 3) (hts : ∀ w ∈ tbG, w.before args s = true) (hown : s.vm.findClass RH = some m.cls) (hlocks : meth.locks = false) (hA : ∀ q : Nat, s.heap.size ≤ q → A q) (hK : va_K D clX (tyA ca) s) (hE : eX A s) : ∀ (n : Nat) (σ : Sg) (x1 : Int32) (x2 : Int32), wpl_howManyWait_L4 n post σ x1 x2 → ∀ (H : Heap) (locs : List Loc), va_P D clX (wX ca ad σ) H → va_D A (wX ca ad σ) → va_S A s.heap H locs → ∀ ls : Array Slot, lv_has ls 3 [(0, .ref (ad 0 0)), (1, .int x1), (2, .int x2)] → W p l e (headSpec wsH_howManyWait ({ frames := 1, cells := 0, slots := 0, locals := 20 })).room s m args below meth c H locs 0 0 (MQ below (va_Qi post (atX D ca ad A) A) args s 0 0 A) (F0 m 4 ls []) := by
  intro n
  induction n with
  | zero => intro σ x1 x2 hw; exact hw.elim
  | succ n ih =>
    intro σ x1 x2 hw H locs hP hD hS ls hl
    refine lv_iload_n hx hb dH_howManyWait_4 rfl (lv_at hl 2 rfl) ?_
    refine lv_bipush (v := 8) hx hb dH_howManyWait_5 (by decide) ?_
    refine lv_icmp_ge (tgt := 31) hx hb dH_howManyWait_7 (by decide) (fun c1 => ?_) (fun c1 => ?_)
    · have hw := hw.1 c1
      refine lv_iload_n hx hb dH_howManyWait_31 rfl (lv_at hl 1 rfl) ?_
      exact W.iret (v := x1) hx hb hr (fun t ht hW => ⟨⟨x1, σ, rfl, hw, by rw [ht]; exact hP, va_K.moved hW.alike hK, hD⟩, hS.F ht⟩) hS.2.2 dH_howManyWait_32
    · have hw := hw.2 c1
      refine lv_iload_n hx hb dH_howManyWait_10 rfl (lv_at hl 1 rfl) ?_
      refine lv_aload_n hx hb dH_howManyWait_11 rfl (lv_at hl 0 rfl) ?_
      refine va_get (D := D) (ci := 0) (v := .ref (ad 1 0)) (C := RH) (T := TH) (N := 8) hx hb hts inH hown hK hP 0 gX_0 rfl 0 (by decide) (hts _ tw_150) (fun _ h9 => h9) rfl dH_howManyWait_12 ?_
      refine lv_iload_n hx hb dH_howManyWait_15 rfl (lv_at hl 2 rfl) ?_
      obtain ⟨hin2, hw⟩ := hw
      have hj3 := px_lt hin2
      refine va_aldq hx hb hK hP 1 2 gX_1 rfl hin2 dH_howManyWait_16 ?_
      refine W.eq (g2 := F0 m 17 ls [.ref (ad 6 ((x2).toNatClampNeg)), .int x1]) rfl ?_
      have hFc := px_free hD hS hA
      refine va_calli (va_runV (As := []) (rest := [.int x1]) ⟨hx, hb, hml, hown, hts⟩ (c_waits l D ca ad σ ((x2).toNatClampNeg) hj3 _ _ hw) (cwV 0 hts (gV tw_198 tw_199 tw_200 tw_6 tw_201) rfl rfl rfl (by decide +kernel) ⟨Nat.le_of_ble_eq_true rfl, Nat.le_of_ble_eq_true rfl⟩) ⟨px_blind, (px_recv hK hP (gX_6 hj3) rfl), fun U hU hW => px_pre hP hK hD hE hS hFc hU hW⟩ rfl rfl hl.1 rfl (lv_room (Nat.le_of_ble_eq_true rfl)) dH_howManyWait_17 ⟨Nat.le_of_ble_eq_true rfl, Nat.le_of_ble_eq_true rfl⟩) hS (fun q _ h => hFc q h) hFc (fun r5 s4 t H locs ht hvm hw hB _ _ hS => ?_)
      obtain ⟨hP, -, hD⟩ := hB
      rw [ht] at hP
      have hD := hD.weaken (fun _ _ _ h9 => hFc _ h9)
      have hFc := px_free hD hS hA
      refine va_calli (va_runS (As := [.int r5]) (rest := [.int x1]) ⟨hx, hb, hml, hown, hts⟩ (c_asInt l D ca ad s4 r5 _ _ hw) (va_cwS 1 hts (gS tw_202 tw_203 tw_1 tw_204) rfl rfl rfl (by decide +kernel) ⟨Nat.le_of_ble_eq_true rfl, Nat.le_of_ble_eq_true rfl⟩) ⟨px_blind, fun U hU hW => px_pre hP hK hD hE hS hFc hU hW⟩ rfl rfl hl.1 rfl (lv_room (Nat.le_of_ble_eq_true rfl)) dH_howManyWait_20 ⟨Nat.le_of_ble_eq_true rfl, Nat.le_of_ble_eq_true rfl⟩) hS (fun q _ h => hFc q h) hFc (fun r7 s6 t H locs ht hvm hw hB _ _ hS => ?_)
      obtain ⟨hP, -, hD⟩ := hB
      rw [ht] at hP
      have hD := hD.weaken (fun _ _ _ h9 => hFc _ h9)
      refine lv_iadd hx hb dH_howManyWait_23 ?_
      refine lv_istore_n (lv' := [(1, .int (x1 + r7)), (0, .ref (ad 0 0)), (2, .int x2)]) hx hb dH_howManyWait_24 rfl hl (by decide) rfl (fun ls hl => ?_)
      refine lv_iinc (v := x2 + 1) (lv' := [(2, .int (x2 + 1)), (1, .int (x1 + r7)), (0, .ref (ad 0 0))]) hx hb dH_howManyWait_25 hl (k := 2) rfl rfl (by decide) rfl (fun ls hl => ?_)
      refine lv_goto (tgt := 4) hx hb dH_howManyWait_28 (by decide) ?_
      exact ih s6 (x1 + r7) (x2 + 1) hw _ _ hP hD hS ls (lv_sub hl [2, 1, 0] rfl)
def wp_howManyWait (post : Int32 → Sg → Prop) (σ : Sg)  : Prop := (∃ n : Nat, wpl_howManyWait_L4 n post σ 0 0)
set_option maxHeartbeats 4000000 in
set_option maxRecDepth 100000 in
theorem c_howManyWait (l : Launch) (D : va_G) (ca : Nat → ClassId) (ad : Nat → Nat → Nat) (σ : Sg)  (sz : Nat) (post : Int32 → Sg → Prop) (hw : wp_howManyWait post σ ) : Met l yH_howManyWait wsH_howManyWait ({ frames := 1, cells := 0, slots := 0, locals := 20 }) (va_Pc [.ref (ad 0 0)] (preX D ca ad σ sz)) (va_Qi post (atX D ca ad (va_A (wX ca ad σ) sz)) (va_A (wX ca ad σ) sz)) 0 0 (va_A (wX ca ad σ) sz) := by
  refine Met.ofW (cc := cH_howManyWait) (maxL := 3) (ret := (some .int)) (by decide) rfl ?_
  intro p e s m args below meth c s₁ B hml hv
  obtain ⟨rfl, hsz, hP, hK, hD0, hE⟩ := hv
  have hx := B.exec
  have hb := B.bytes
  have hr := B.returns
  have hts : ∀ w ∈ tbG, w.before _ s = true := fun w h => atoms_spec (ws := wsH_howManyWait) B.pre w (List.mem_cons_of_mem _ h)
  have hown : s.vm.findClass RH = some m.cls := findClass_of_methodNamed B.named
  have hlocks := B.notSynchronized
  subst hsz
  have hD := hD0.self (sz := s.heap.size)
  generalize hAe : va_A (wX ca ad σ) s.heap.size = A at hD hE ⊢
  have hA : ∀ q : Nat, s.heap.size ≤ q → A q := fun q h => by rw [← hAe]; exact Or.inr h
  clear hAe
  have hS : va_S A s.heap s.heap [] := va_S.rf
  have hl := lv_entry ([.ref (ad 0 0)]) (n := 3) (Nat.le_of_ble_eq_true rfl)
  rw [lg_entry_eq]
  generalize (lg_sl ([.ref (ad 0 0)]) ++ List.replicate (3 - (lg_sl ([.ref (ad 0 0)])).length) Slot.unset).toArray = ls at hl ⊢
  have hl : lv_has ls 3 [(0, .ref (ad 0 0))] := hl
  unfold wp_howManyWait at hw
  have hP : va_P D clX (wX ca ad σ) s.heap := hP
  refine lv_iconst (v := 0) hx hb dH_howManyWait_0 (by decide) ?_
  refine lv_istore_n (lv' := [(1, .int 0), (0, .ref (ad 0 0))]) hx hb dH_howManyWait_1 rfl hl (by decide) rfl (fun ls hl => ?_)
  refine lv_iconst (v := 0) hx hb dH_howManyWait_2 (by decide) ?_
  refine lv_istore_n (lv' := [(2, .int 0), (1, .int 0), (0, .ref (ad 0 0))]) hx hb dH_howManyWait_3 rfl hl (by decide) rfl (fun ls hl => ?_)
  obtain ⟨n, hw⟩ := hw
  exact l_howManyWait_L4 (D := D) (ca := ca) (ad := ad)  hx hb hr hml hts hown hlocks hA hK hE n σ 0 0 hw _ _ hP hD hS ls (lv_sub hl [2, 1, 0] rfl)
theorem dH_firstToRing_0 : decode cH_firstToRing 0 = .ok (.aconst_null, 1) := by decide +kernel
theorem dH_firstToRing_1 : decode cH_firstToRing 1 = .ok (.astore_n 2, 1) := by decide +kernel
theorem dH_firstToRing_2 : decode cH_firstToRing 2 = .ok (.iconst 0, 1) := by decide +kernel
theorem dH_firstToRing_3 : decode cH_firstToRing 3 = .ok (.istore_n 3, 1) := by decide +kernel
theorem dH_firstToRing_4 : decode cH_firstToRing 4 = .ok (.iload_n 3, 1) := by decide +kernel
theorem dH_firstToRing_5 : decode cH_firstToRing 5 = .ok (.bipush 8, 2) := by decide +kernel
theorem dH_firstToRing_7 : decode cH_firstToRing 7 = .ok (.if_icmp .ge 51, 3) := by decide +kernel
theorem dH_firstToRing_10 : decode cH_firstToRing 10 = .ok (.aload_n 0, 1) := by decide +kernel
theorem dH_firstToRing_11 : decode cH_firstToRing 11 = .ok (.getfield 11, 3) := by decide +kernel
theorem dH_firstToRing_14 : decode cH_firstToRing 14 = .ok (.iload_n 3, 1) := by decide +kernel
theorem dH_firstToRing_15 : decode cH_firstToRing 15 = .ok (.aaload, 1) := by decide +kernel
theorem dH_firstToRing_16 : decode cH_firstToRing 16 = .ok (.astore 4, 2) := by decide +kernel
theorem dH_firstToRing_18 : decode cH_firstToRing 18 = .ok (.aload 4, 2) := by decide +kernel
theorem dH_firstToRing_20 : decode cH_firstToRing 20 = .ok (.getfield 146, 3) := by decide +kernel
theorem dH_firstToRing_23 : decode cH_firstToRing 23 = .ok (.iconst (-1), 1) := by decide +kernel
theorem dH_firstToRing_24 : decode cH_firstToRing 24 = .ok (.if_icmp .eq 28, 3) := by decide +kernel
theorem dH_firstToRing_27 : decode cH_firstToRing 27 = .ok (.aload 4, 2) := by decide +kernel
theorem dH_firstToRing_29 : decode cH_firstToRing 29 = .ok (.getfield 146, 3) := by decide +kernel
theorem dH_firstToRing_32 : decode cH_firstToRing 32 = .ok (.iload_n 1, 1) := by decide +kernel
theorem dH_firstToRing_33 : decode cH_firstToRing 33 = .ok (.if_icmp .gt 19, 3) := by decide +kernel
theorem dH_firstToRing_36 : decode cH_firstToRing 36 = .ok (.aload_n 2, 1) := by decide +kernel
theorem dH_firstToRing_37 : decode cH_firstToRing 37 = .ok (.ifnull 12, 3) := by decide +kernel
theorem dH_firstToRing_40 : decode cH_firstToRing 40 = .ok (.aload 4, 2) := by decide +kernel
theorem dH_firstToRing_42 : decode cH_firstToRing 42 = .ok (.aload_n 2, 1) := by decide +kernel
theorem dH_firstToRing_43 : decode cH_firstToRing 43 = .ok (.invokevirtual 243, 3) := by decide +kernel
theorem dH_firstToRing_46 : decode cH_firstToRing 46 = .ok (.ifCond .eq 6, 3) := by decide +kernel
theorem dH_firstToRing_49 : decode cH_firstToRing 49 = .ok (.aload 4, 2) := by decide +kernel
theorem dH_firstToRing_51 : decode cH_firstToRing 51 = .ok (.astore_n 2, 1) := by decide +kernel
theorem dH_firstToRing_52 : decode cH_firstToRing 52 = .ok (.iinc 3 1, 3) := by decide +kernel
theorem dH_firstToRing_55 : decode cH_firstToRing 55 = .ok (.goto (-51), 3) := by decide +kernel
theorem dH_firstToRing_58 : decode cH_firstToRing 58 = .ok (.aload_n 2, 1) := by decide +kernel
theorem dH_firstToRing_59 : decode cH_firstToRing 59 = .ok (.areturn, 1) := by decide +kernel
def wpl_firstToRing_L4 : Nat → (Option Nat → Sg → Prop) → Sg → Int32 → Option Nat → Int32 → Prop
  | 0, _, _, _, _, _ => False
  | n + 1, post, σ, x1, x2, x3 => ((x2 = none → (((8 ≤ x3) → post none σ) ∧ (¬ (8 ≤ x3) → (vp_in x3 8 ∧ ((((sF σ 13 ((x3).toNatClampNeg)) = (-1)) → wpl_firstToRing_L4 n post σ x1 none (x3 + 1)) ∧ (¬ ((sF σ 13 ((x3).toNatClampNeg)) = (-1)) → (((x1 < (sF σ 13 ((x3).toNatClampNeg))) → wpl_firstToRing_L4 n post σ x1 none (x3 + 1)) ∧ (¬ (x1 < (sF σ 13 ((x3).toNatClampNeg))) → wpl_firstToRing_L4 n post σ x1 (some ((x3).toNatClampNeg)) (x3 + 1))))))))) ∧ (∀ j1 : Nat, x2 = some j1 → (j1 < 8 ∧ (((8 ≤ x3) → post (some j1) σ) ∧ (¬ (8 ≤ x3) → (vp_in x3 8 ∧ ((((sF σ 13 ((x3).toNatClampNeg)) = (-1)) → wpl_firstToRing_L4 n post σ x1 (some j1) (x3 + 1)) ∧ (¬ ((sF σ 13 ((x3).toNatClampNeg)) = (-1)) → (((x1 < (sF σ 13 ((x3).toNatClampNeg))) → wpl_firstToRing_L4 n post σ x1 (some j1) (x3 + 1)) ∧ (¬ (x1 < (sF σ 13 ((x3).toNatClampNeg))) → wp_ringsBefore (fun r15 s14 => (((r15 = 0) → wpl_firstToRing_L4 n post s14 x1 (some j1) (x3 + 1)) ∧ (¬ (r15 = 0) → wpl_firstToRing_L4 n post s14 x1 (some ((x3).toNatClampNeg)) (x3 + 1)))) σ ((x3).toNatClampNeg) j1))))))))))
set_option maxHeartbeats 4000000 in
set_option maxRecDepth 100000 in
theorem l_firstToRing_L4 {p : Program} {l : Launch} {e : Env} {s : State} {m : MethodId} {args : Array Value} {below : List Frame} {meth : Method} {c : Code} {D : va_G} {ca : Nat → ClassId} {ad : Nat → Nat → Nat} {A : Nat → Prop}  {post : Option Nat → Sg → Prop} (hx : p.tables.exec = Jvm.exec) (hb : c.code = cH_firstToRing) (hr : meth.sig.returnType = (some (.object "PatronHall$Patron"))) (hml : c.maxLocals = 5) (hts : ∀ w ∈ tbG, w.before args s = true) (hown : s.vm.findClass RH = some m.cls) (hlocks : meth.locks = false) (hA : ∀ q : Nat, s.heap.size ≤ q → A q) (hK : va_K D clX (tyA ca) s) (hE : eX A s) : ∀ (n : Nat) (σ : Sg) (x1 : Int32) (x2 : Option Nat) (x3 : Int32), wpl_firstToRing_L4 n post σ x1 x2 x3 → ∀ (H : Heap) (locs : List Loc), va_P D clX (wX ca ad σ) H → va_D A (wX ca ad σ) → va_S A s.heap H locs → ∀ ls : Array Slot, lv_has ls 5 [(0, .ref (ad 0 0)), (1, .int x1), (2, va_re (ad 6) x2), (3, .int x3)] → W p l e (headSpec wsH_firstToRing ({ frames := 1, cells := 0, slots := 0, locals := 21 })).room s m args below meth c H locs 0 0 (MQ below (va_Qe (ad 6) post (atX D ca ad A) A) args s 0 0 A) (F0 m 4 ls []) := by
  intro n
  induction n with
  | zero => intro σ x1 x2 x3 hw; exact hw.elim
  | succ n ih =>
    intro σ x1 x2 x3 hw H locs hP hD hS ls hl
    cases e2 : x2 with
    | none =>
      have hw := hw.1 e2
      try rw [e2] at hl
      refine lv_iload_n hx hb dH_firstToRing_4 rfl (lv_at hl 3 rfl) ?_
      refine lv_bipush (v := 8) hx hb dH_firstToRing_5 (by decide) ?_
      refine lv_icmp_ge (tgt := 58) hx hb dH_firstToRing_7 (by decide) (fun c4 => ?_) (fun c4 => ?_)
      · have hw := hw.1 c4
        refine lv_aload_nN hx hb dH_firstToRing_58 rfl (lv_at hl 2 rfl) ?_
        exact W.aret (v := va_re (ad 6) none) (rt := .object "PatronHall$Patron") hx hb hr (Or.inl ⟨_, rfl⟩) (va_re_or _ _) (fun t ht hW => ⟨⟨none, σ, rfl, hw, by rw [ht]; exact hP, va_K.moved hW.alike hK, hD⟩, hS.F ht⟩) hS.2.2 dH_firstToRing_59
      · have hw := hw.2 c4
        refine lv_aload_n hx hb dH_firstToRing_10 rfl (lv_at hl 0 rfl) ?_
        refine va_get (D := D) (ci := 0) (v := .ref (ad 1 0)) (C := RH) (T := TH) (N := 8) hx hb hts inH hown hK hP 0 gX_0 rfl 0 (by decide) (hts _ tw_150) (fun _ h9 => h9) rfl dH_firstToRing_11 ?_
        refine lv_iload_n hx hb dH_firstToRing_14 rfl (lv_at hl 3 rfl) ?_
        obtain ⟨hin5, hw⟩ := hw
        have hj6 := px_lt hin5
        refine va_aldq hx hb hK hP 1 2 gX_1 rfl hin5 dH_firstToRing_15 ?_
        refine W.eq (g2 := F0 m 16 ls [.ref (ad 6 ((x3).toNatClampNeg))]) rfl ?_
        refine lv_astore (lv' := [(4, .ref (ad 6 ((x3).toNatClampNeg))), (0, .ref (ad 0 0)), (1, .int x1), (2, .null), (3, .int x3)]) hx hb dH_firstToRing_16 hl (by decide) rfl (fun ls hl => ?_)
        refine lv_aload hx hb dH_firstToRing_18 (lv_at hl 0 rfl) ?_
        refine va_get (D := D) (ci := 1) (v := .int (sF σ 13 ((x3).toNatClampNeg))) (C := RP) (T := TP) (N := 16) hx hb hts inP hown hK hP (6 + ((x3).toNatClampNeg)) (gX_6 hj6) rfl 13 (by decide) (hts _ tw_111) (fun _ h9 => h9) rfl dH_firstToRing_20 ?_
        refine lv_iconst (v := (-1)) hx hb dH_firstToRing_23 (by decide) ?_
        refine lv_icmp_eq (tgt := 52) hx hb dH_firstToRing_24 (by decide) (fun c7 => ?_) (fun c7 => ?_)
        · have hw := hw.1 c7
          refine lv_iinc (v := x3 + 1) (lv' := [(3, .int (x3 + 1)), (4, .ref (ad 6 ((x3).toNatClampNeg))), (0, .ref (ad 0 0)), (1, .int x1), (2, .null)]) hx hb dH_firstToRing_52 hl (k := 4) rfl rfl (by decide) rfl (fun ls hl => ?_)
          refine lv_goto (tgt := 4) hx hb dH_firstToRing_55 (by decide) ?_
          exact ih σ x1 none (x3 + 1) hw _ _ hP hD hS ls (lv_sub hl [2, 3, 4, 0] rfl)
        · have hw := hw.2 c7
          refine lv_aload hx hb dH_firstToRing_27 (lv_at hl 0 rfl) ?_
          refine va_get (D := D) (ci := 1) (v := .int (sF σ 13 ((x3).toNatClampNeg))) (C := RP) (T := TP) (N := 16) hx hb hts inP hown hK hP (6 + ((x3).toNatClampNeg)) (gX_6 hj6) rfl 13 (by decide) (hts _ tw_111) (fun _ h9 => h9) rfl dH_firstToRing_29 ?_
          refine lv_iload_n hx hb dH_firstToRing_32 rfl (lv_at hl 2 rfl) ?_
          refine lv_icmp_gt (tgt := 52) hx hb dH_firstToRing_33 (by decide) (fun c8 => ?_) (fun c8 => ?_)
          · have hw := hw.1 c8
            refine lv_iinc (v := x3 + 1) (lv' := [(3, .int (x3 + 1)), (4, .ref (ad 6 ((x3).toNatClampNeg))), (0, .ref (ad 0 0)), (1, .int x1), (2, .null)]) hx hb dH_firstToRing_52 hl (k := 4) rfl rfl (by decide) rfl (fun ls hl => ?_)
            refine lv_goto (tgt := 4) hx hb dH_firstToRing_55 (by decide) ?_
            exact ih σ x1 none (x3 + 1) hw _ _ hP hD hS ls (lv_sub hl [2, 3, 4, 0] rfl)
          · have hw := hw.2 c8
            refine lv_aload_nN hx hb dH_firstToRing_36 rfl (lv_at hl 3 rfl) ?_
            refine lv_ifnullN (tgt := 49) hx hb dH_firstToRing_37 (by decide) ?_
            refine lv_aload hx hb dH_firstToRing_49 (lv_at hl 0 rfl) ?_
            refine lv_astore_n (lv' := [(2, .ref (ad 6 ((x3).toNatClampNeg))), (4, .ref (ad 6 ((x3).toNatClampNeg))), (0, .ref (ad 0 0)), (1, .int x1), (3, .int x3)]) hx hb dH_firstToRing_51 rfl hl (by decide) rfl (fun ls hl => ?_)
            refine lv_iinc (v := x3 + 1) (lv' := [(3, .int (x3 + 1)), (2, .ref (ad 6 ((x3).toNatClampNeg))), (4, .ref (ad 6 ((x3).toNatClampNeg))), (0, .ref (ad 0 0)), (1, .int x1)]) hx hb dH_firstToRing_52 hl (k := 4) rfl rfl (by decide) rfl (fun ls hl => ?_)
            refine lv_goto (tgt := 4) hx hb dH_firstToRing_55 (by decide) ?_
            exact ih σ x1 (some ((x3).toNatClampNeg)) (x3 + 1) hw _ _ hP hD hS ls (lv_sub hl [3, 4, 1, 0] rfl)
    | some j1 =>
      obtain ⟨hj3, hw⟩ := hw.2 j1 e2
      try rw [e2] at hl
      refine lv_iload_n hx hb dH_firstToRing_4 rfl (lv_at hl 3 rfl) ?_
      refine lv_bipush (v := 8) hx hb dH_firstToRing_5 (by decide) ?_
      refine lv_icmp_ge (tgt := 58) hx hb dH_firstToRing_7 (by decide) (fun c9 => ?_) (fun c9 => ?_)
      · have hw := hw.1 c9
        refine lv_aload_n hx hb dH_firstToRing_58 rfl (lv_at hl 2 rfl) ?_
        exact W.aret (v := va_re (ad 6) (some j1)) (rt := .object "PatronHall$Patron") hx hb hr (Or.inl ⟨_, rfl⟩) (va_re_or _ _) (fun t ht hW => ⟨⟨(some j1), σ, rfl, hw, by rw [ht]; exact hP, va_K.moved hW.alike hK, hD⟩, hS.F ht⟩) hS.2.2 dH_firstToRing_59
      · have hw := hw.2 c9
        refine lv_aload_n hx hb dH_firstToRing_10 rfl (lv_at hl 0 rfl) ?_
        refine va_get (D := D) (ci := 0) (v := .ref (ad 1 0)) (C := RH) (T := TH) (N := 8) hx hb hts inH hown hK hP 0 gX_0 rfl 0 (by decide) (hts _ tw_150) (fun _ h9 => h9) rfl dH_firstToRing_11 ?_
        refine lv_iload_n hx hb dH_firstToRing_14 rfl (lv_at hl 3 rfl) ?_
        obtain ⟨hin10, hw⟩ := hw
        have hj11 := px_lt hin10
        refine va_aldq hx hb hK hP 1 2 gX_1 rfl hin10 dH_firstToRing_15 ?_
        refine W.eq (g2 := F0 m 16 ls [.ref (ad 6 ((x3).toNatClampNeg))]) rfl ?_
        refine lv_astore (lv' := [(4, .ref (ad 6 ((x3).toNatClampNeg))), (0, .ref (ad 0 0)), (1, .int x1), (2, .ref (ad 6 j1)), (3, .int x3)]) hx hb dH_firstToRing_16 hl (by decide) rfl (fun ls hl => ?_)
        refine lv_aload hx hb dH_firstToRing_18 (lv_at hl 0 rfl) ?_
        refine va_get (D := D) (ci := 1) (v := .int (sF σ 13 ((x3).toNatClampNeg))) (C := RP) (T := TP) (N := 16) hx hb hts inP hown hK hP (6 + ((x3).toNatClampNeg)) (gX_6 hj11) rfl 13 (by decide) (hts _ tw_111) (fun _ h9 => h9) rfl dH_firstToRing_20 ?_
        refine lv_iconst (v := (-1)) hx hb dH_firstToRing_23 (by decide) ?_
        refine lv_icmp_eq (tgt := 52) hx hb dH_firstToRing_24 (by decide) (fun c12 => ?_) (fun c12 => ?_)
        · have hw := hw.1 c12
          refine lv_iinc (v := x3 + 1) (lv' := [(3, .int (x3 + 1)), (4, .ref (ad 6 ((x3).toNatClampNeg))), (0, .ref (ad 0 0)), (1, .int x1), (2, .ref (ad 6 j1))]) hx hb dH_firstToRing_52 hl (k := 4) rfl rfl (by decide) rfl (fun ls hl => ?_)
          refine lv_goto (tgt := 4) hx hb dH_firstToRing_55 (by decide) ?_
          exact ih σ x1 (some j1) (x3 + 1) hw _ _ hP hD hS ls (lv_sub hl [2, 3, 4, 0] rfl)
        · have hw := hw.2 c12
          refine lv_aload hx hb dH_firstToRing_27 (lv_at hl 0 rfl) ?_
          refine va_get (D := D) (ci := 1) (v := .int (sF σ 13 ((x3).toNatClampNeg))) (C := RP) (T := TP) (N := 16) hx hb hts inP hown hK hP (6 + ((x3).toNatClampNeg)) (gX_6 hj11) rfl 13 (by decide) (hts _ tw_111) (fun _ h9 => h9) rfl dH_firstToRing_29 ?_
          refine lv_iload_n hx hb dH_firstToRing_32 rfl (lv_at hl 2 rfl) ?_
          refine lv_icmp_gt (tgt := 52) hx hb dH_firstToRing_33 (by decide) (fun c13 => ?_) (fun c13 => ?_)
          · have hw := hw.1 c13
            refine lv_iinc (v := x3 + 1) (lv' := [(3, .int (x3 + 1)), (4, .ref (ad 6 ((x3).toNatClampNeg))), (0, .ref (ad 0 0)), (1, .int x1), (2, .ref (ad 6 j1))]) hx hb dH_firstToRing_52 hl (k := 4) rfl rfl (by decide) rfl (fun ls hl => ?_)
            refine lv_goto (tgt := 4) hx hb dH_firstToRing_55 (by decide) ?_
            exact ih σ x1 (some j1) (x3 + 1) hw _ _ hP hD hS ls (lv_sub hl [2, 3, 4, 0] rfl)
          · have hw := hw.2 c13
            refine lv_aload_n hx hb dH_firstToRing_36 rfl (lv_at hl 3 rfl) ?_
            refine lv_ifnull hx hb dH_firstToRing_37 ?_
            refine lv_aload hx hb dH_firstToRing_40 (lv_at hl 0 rfl) ?_
            refine lv_aload_n hx hb dH_firstToRing_42 rfl (lv_at hl 3 rfl) ?_
            have hFc := px_free hD hS hA
            refine va_calli (va_runV (As := [.ref (ad 6 j1)]) (rest := []) ⟨hx, hb, hml, hown, hts⟩ (c_ringsBefore l D ca ad σ ((x3).toNatClampNeg) hj11 j1 hj3 _ _ hw) (cwV 1 hts (gV tw_523 tw_524 tw_525 tw_6 tw_526) rfl rfl rfl (by decide +kernel) ⟨Nat.le_of_ble_eq_true rfl, Nat.le_of_ble_eq_true rfl⟩) ⟨px_blind, (px_recv hK hP (gX_6 hj11) rfl), fun U hU hW => px_pre hP hK hD hE hS hFc hU hW⟩ rfl rfl hl.1 rfl (lv_room (Nat.le_of_ble_eq_true rfl)) dH_firstToRing_43 ⟨Nat.le_of_ble_eq_true rfl, Nat.le_of_ble_eq_true rfl⟩) hS (fun q _ h => hFc q h) hFc (fun r15 s14 t H locs ht hvm hw hB _ _ hS => ?_)
            obtain ⟨hP, -, hD⟩ := hB
            rw [ht] at hP
            have hD := hD.weaken (fun _ _ _ h9 => hFc _ h9)
            refine lv_if_eq (tgt := 52) hx hb dH_firstToRing_46 (by decide) (fun c16 => ?_) (fun c16 => ?_)
            · have hw := hw.1 c16
              refine lv_iinc (v := x3 + 1) (lv' := [(3, .int (x3 + 1)), (4, .ref (ad 6 ((x3).toNatClampNeg))), (0, .ref (ad 0 0)), (1, .int x1), (2, .ref (ad 6 j1))]) hx hb dH_firstToRing_52 hl (k := 4) rfl rfl (by decide) rfl (fun ls hl => ?_)
              refine lv_goto (tgt := 4) hx hb dH_firstToRing_55 (by decide) ?_
              exact ih s14 x1 (some j1) (x3 + 1) hw _ _ hP hD hS ls (lv_sub hl [2, 3, 4, 0] rfl)
            · have hw := hw.2 c16
              refine lv_aload hx hb dH_firstToRing_49 (lv_at hl 0 rfl) ?_
              refine lv_astore_n (lv' := [(2, .ref (ad 6 ((x3).toNatClampNeg))), (4, .ref (ad 6 ((x3).toNatClampNeg))), (0, .ref (ad 0 0)), (1, .int x1), (3, .int x3)]) hx hb dH_firstToRing_51 rfl hl (by decide) rfl (fun ls hl => ?_)
              refine lv_iinc (v := x3 + 1) (lv' := [(3, .int (x3 + 1)), (2, .ref (ad 6 ((x3).toNatClampNeg))), (4, .ref (ad 6 ((x3).toNatClampNeg))), (0, .ref (ad 0 0)), (1, .int x1)]) hx hb dH_firstToRing_52 hl (k := 4) rfl rfl (by decide) rfl (fun ls hl => ?_)
              refine lv_goto (tgt := 4) hx hb dH_firstToRing_55 (by decide) ?_
              exact ih s14 x1 (some ((x3).toNatClampNeg)) (x3 + 1) hw _ _ hP hD hS ls (lv_sub hl [3, 4, 1, 0] rfl)
def wp_firstToRing (post : Option Nat → Sg → Prop) (σ : Sg) (a0 : Int32) : Prop := (∃ n : Nat, wpl_firstToRing_L4 n post σ a0 none 0)
set_option maxHeartbeats 4000000 in
set_option maxRecDepth 100000 in
theorem c_firstToRing (l : Launch) (D : va_G) (ca : Nat → ClassId) (ad : Nat → Nat → Nat) (σ : Sg) (a0 : Int32) (sz : Nat) (post : Option Nat → Sg → Prop) (hw : wp_firstToRing post σ a0) : Met l yH_firstToRing wsH_firstToRing ({ frames := 1, cells := 0, slots := 0, locals := 21 }) (va_Pc [.ref (ad 0 0), .int a0] (preX D ca ad σ sz)) (va_Qe (ad 6) post (atX D ca ad (va_A (wX ca ad σ) sz)) (va_A (wX ca ad σ) sz)) 0 0 (va_A (wX ca ad σ) sz) := by
  refine Met.ofW (cc := cH_firstToRing) (maxL := 5) (ret := (some (.object "PatronHall$Patron"))) (by decide) rfl ?_
  intro p e s m args below meth c s₁ B hml hv
  obtain ⟨rfl, hsz, hP, hK, hD0, hE⟩ := hv
  have hx := B.exec
  have hb := B.bytes
  have hr := B.returns
  have hts : ∀ w ∈ tbG, w.before _ s = true := fun w h => atoms_spec (ws := wsH_firstToRing) B.pre w (List.mem_cons_of_mem _ h)
  have hown : s.vm.findClass RH = some m.cls := findClass_of_methodNamed B.named
  have hlocks := B.notSynchronized
  subst hsz
  have hD := hD0.self (sz := s.heap.size)
  generalize hAe : va_A (wX ca ad σ) s.heap.size = A at hD hE ⊢
  have hA : ∀ q : Nat, s.heap.size ≤ q → A q := fun q h => by rw [← hAe]; exact Or.inr h
  clear hAe
  have hS : va_S A s.heap s.heap [] := va_S.rf
  have hl := lv_entry ([.ref (ad 0 0), .int a0]) (n := 5) (Nat.le_of_ble_eq_true rfl)
  rw [lg_entry_eq]
  generalize (lg_sl ([.ref (ad 0 0), .int a0]) ++ List.replicate (5 - (lg_sl ([.ref (ad 0 0), .int a0])).length) Slot.unset).toArray = ls at hl ⊢
  have hl : lv_has ls 5 [(0, .ref (ad 0 0)), (1, .int a0)] := hl
  unfold wp_firstToRing at hw
  have hP : va_P D clX (wX ca ad σ) s.heap := hP
  refine lv_null hx hb dH_firstToRing_0 ?_
  refine lv_astore_nN (lv' := [(2, .null), (0, .ref (ad 0 0)), (1, .int a0)]) hx hb dH_firstToRing_1 rfl hl (by decide) rfl (fun ls hl => ?_)
  refine lv_iconst (v := 0) hx hb dH_firstToRing_2 (by decide) ?_
  refine lv_istore_n (lv' := [(3, .int 0), (2, .null), (0, .ref (ad 0 0)), (1, .int a0)]) hx hb dH_firstToRing_3 rfl hl (by decide) rfl (fun ls hl => ?_)
  obtain ⟨n, hw⟩ := hw
  exact l_firstToRing_L4 (D := D) (ca := ca) (ad := ad)  hx hb hr hml hts hown hlocks hA hK hE n σ a0 none 0 hw _ _ hP hD hS ls (lv_sub hl [2, 3, 1, 0] rfl)
theorem dH_hearAnswer_0 : decode cH_hearAnswer 0 = .ok (.aload_n 1, 1) := by decide +kernel
theorem dH_hearAnswer_1 : decode cH_hearAnswer 1 = .ok (.getfield 169, 3) := by decide +kernel
theorem dH_hearAnswer_4 : decode cH_hearAnswer 4 = .ok (.ifCond .eq 21, 3) := by decide +kernel
theorem dH_hearAnswer_7 : decode cH_hearAnswer 7 = .ok (.aload_n 1, 1) := by decide +kernel
theorem dH_hearAnswer_8 : decode cH_hearAnswer 8 = .ok (.iload_n 2, 1) := by decide +kernel
theorem dH_hearAnswer_9 : decode cH_hearAnswer 9 = .ok (.putfield 104, 3) := by decide +kernel
theorem dH_hearAnswer_12 : decode cH_hearAnswer 12 = .ok (.aload_n 1, 1) := by decide +kernel
theorem dH_hearAnswer_13 : decode cH_hearAnswer 13 = .ok (.iconst 0, 1) := by decide +kernel
theorem dH_hearAnswer_14 : decode cH_hearAnswer 14 = .ok (.putfield 159, 3) := by decide +kernel
theorem dH_hearAnswer_17 : decode cH_hearAnswer 17 = .ok (.aload_n 0, 1) := by decide +kernel
theorem dH_hearAnswer_18 : decode cH_hearAnswer 18 = .ok (.aload_n 1, 1) := by decide +kernel
theorem dH_hearAnswer_19 : decode cH_hearAnswer 19 = .ok (.invokevirtual 111, 3) := by decide +kernel
theorem dH_hearAnswer_22 : decode cH_hearAnswer 22 = .ok (.goto 19, 3) := by decide +kernel
theorem dH_hearAnswer_25 : decode cH_hearAnswer 25 = .ok (.aload_n 1, 1) := by decide +kernel
theorem dH_hearAnswer_26 : decode cH_hearAnswer 26 = .ok (.aload_n 0, 1) := by decide +kernel
theorem dH_hearAnswer_27 : decode cH_hearAnswer 27 = .ok (.getfield 29, 3) := by decide +kernel
theorem dH_hearAnswer_30 : decode cH_hearAnswer 30 = .ok (.iload_n 3, 1) := by decide +kernel
theorem dH_hearAnswer_31 : decode cH_hearAnswer 31 = .ok (.invokevirtual 247, 3) := by decide +kernel
theorem dH_hearAnswer_34 : decode cH_hearAnswer 34 = .ok (.aload_n 0, 1) := by decide +kernel
theorem dH_hearAnswer_35 : decode cH_hearAnswer 35 = .ok (.aload_n 1, 1) := by decide +kernel
theorem dH_hearAnswer_36 : decode cH_hearAnswer 36 = .ok (.iconst 1, 1) := by decide +kernel
theorem dH_hearAnswer_37 : decode cH_hearAnswer 37 = .ok (.iload_n 2, 1) := by decide +kernel
theorem dH_hearAnswer_38 : decode cH_hearAnswer 38 = .ok (.invokevirtual 134, 3) := by decide +kernel
theorem dH_hearAnswer_41 : decode cH_hearAnswer 41 = .ok (.return_, 1) := by decide +kernel
def wp_hearAnswer (post : Sg → Prop) (σ : Sg) (k0 : Nat) (a1 : Int32) (a2 : Int32) : Prop := ((((sF σ 12 k0) = 0) → wp_keepAnswer (fun s2 => wp_tell (fun s4 => post s4) s2 k0 1 a1) σ k0 a2) ∧ (¬ ((sF σ 12 k0) = 0) → wp_requestWhatWasAsked (fun s6 => post s6) (uF 9 k0 0 (uF 8 k0 a1 σ)) k0))
set_option maxHeartbeats 4000000 in
set_option maxRecDepth 100000 in
theorem c_hearAnswer (l : Launch) (D : va_G) (ca : Nat → ClassId) (ad : Nat → Nat → Nat) (σ : Sg) (k0 : Nat) (hk0 : k0 < 8) (a1 : Int32) (a2 : Int32) (sz : Nat) (post : Sg → Prop) (hw : wp_hearAnswer post σ k0 a1 a2) : Met l yH_hearAnswer wsH_hearAnswer ({ frames := 5, cells := 0, slots := 0, locals := 108 }) (va_Pc [.ref (ad 0 0), .ref (ad 6 k0), .int a1, .int a2] (preX D ca ad σ sz)) (va_Qv post (atX D ca ad (va_A (wX ca ad σ) sz)) (va_A (wX ca ad σ) sz)) 0 0 (va_A (wX ca ad σ) sz) := by
  refine Met.ofW (cc := cH_hearAnswer) (maxL := 4) (ret := none) (by decide) rfl ?_
  intro p e s m args below meth c s₁ B hml hv
  obtain ⟨rfl, hsz, hP, hK, hD0, hE⟩ := hv
  have hx := B.exec
  have hb := B.bytes
  have hr := B.returns
  have hts : ∀ w ∈ tbG, w.before _ s = true := fun w h => atoms_spec (ws := wsH_hearAnswer) B.pre w (List.mem_cons_of_mem _ h)
  have hown : s.vm.findClass RH = some m.cls := findClass_of_methodNamed B.named
  have hlocks := B.notSynchronized
  subst hsz
  have hD := hD0.self (sz := s.heap.size)
  generalize hAe : va_A (wX ca ad σ) s.heap.size = A at hD hE ⊢
  have hA : ∀ q : Nat, s.heap.size ≤ q → A q := fun q h => by rw [← hAe]; exact Or.inr h
  clear hAe
  have hS : va_S A s.heap s.heap [] := va_S.rf
  have hl := lv_entry ([.ref (ad 0 0), .ref (ad 6 k0), .int a1, .int a2]) (n := 4) (Nat.le_of_ble_eq_true rfl)
  rw [lg_entry_eq]
  generalize (lg_sl ([.ref (ad 0 0), .ref (ad 6 k0), .int a1, .int a2]) ++ List.replicate (4 - (lg_sl ([.ref (ad 0 0), .ref (ad 6 k0), .int a1, .int a2])).length) Slot.unset).toArray = ls at hl ⊢
  have hl : lv_has ls 4 [(0, .ref (ad 0 0)), (1, .ref (ad 6 k0)), (2, .int a1), (3, .int a2)] := hl
  unfold wp_hearAnswer at hw
  have hP : va_P D clX (wX ca ad σ) s.heap := hP
  refine lv_aload_n hx hb dH_hearAnswer_0 rfl (lv_at hl 1 rfl) ?_
  refine va_get (D := D) (ci := 1) (v := .int (sF σ 12 k0)) (C := RP) (T := TP) (N := 16) hx hb hts inP hown hK hP (6 + k0) (gX_6 hk0) rfl 12 (by decide) (hts _ tw_109) (fun _ h9 => h9) rfl dH_hearAnswer_1 ?_
  refine lv_if_eq (tgt := 25) hx hb dH_hearAnswer_4 (by decide) (fun c1 => ?_) (fun c1 => ?_)
  · have hw := hw.1 c1
    refine lv_aload_n hx hb dH_hearAnswer_25 rfl (lv_at hl 1 rfl) ?_
    refine lv_aload_n hx hb dH_hearAnswer_26 rfl (lv_at hl 0 rfl) ?_
    refine va_get (D := D) (ci := 0) (v := .ref (ad 4 0)) (C := RH) (T := TH) (N := 8) hx hb hts inH hown hK hP 0 gX_0 rfl 3 (by decide) (hts _ tw_153) (fun _ h9 => h9) rfl dH_hearAnswer_27 ?_
    refine lv_iload_n hx hb dH_hearAnswer_30 rfl (lv_at hl 3 rfl) ?_
    have hFc := px_free hD hS hA
    refine va_callv (va_runV (As := [.ref (ad 4 0), .int a2]) (rest := []) ⟨hx, hb, hml, hown, hts⟩ (c_keepAnswer l D ca ad σ k0 hk0 a2 _ _ hw) (cwV 2 hts (gV tw_499 tw_500 tw_501 tw_6 tw_502) rfl rfl rfl (by decide +kernel) ⟨Nat.le_of_ble_eq_true rfl, Nat.le_of_ble_eq_true rfl⟩) ⟨px_blind, (px_recv hK hP (gX_6 hk0) rfl), fun U hU hW => px_pre hP hK hD hE hS hFc hU hW⟩ rfl rfl hl.1 rfl (lv_room (Nat.le_of_ble_eq_true rfl)) dH_hearAnswer_31 ⟨Nat.le_of_ble_eq_true rfl, Nat.le_of_ble_eq_true rfl⟩) hS (fun q _ h => hFc q h) hFc (fun s2 t H locs ht hvm hw hB _ _ hS => ?_)
    obtain ⟨hP, -, hD⟩ := hB
    rw [ht] at hP
    have hD := hD.weaken (fun _ _ _ h9 => hFc _ h9)
    refine lv_aload_n hx hb dH_hearAnswer_34 rfl (lv_at hl 0 rfl) ?_
    refine lv_aload_n hx hb dH_hearAnswer_35 rfl (lv_at hl 1 rfl) ?_
    refine lv_iconst (v := 1) hx hb dH_hearAnswer_36 (by decide) ?_
    refine lv_iload_n hx hb dH_hearAnswer_37 rfl (lv_at hl 2 rfl) ?_
    have hFc := px_free hD hS hA
    refine va_callv (va_runV (As := [.ref (ad 6 k0), .int 1, .int a1]) (rest := []) ⟨hx, hb, hml, hown, hts⟩ (c_tell l D ca ad s2 k0 hk0 1 a1 _ _ hw) (cwV 3 hts (gV tw_455 tw_457 tp_11 tw_1 tw_458) rfl rfl rfl (by decide +kernel) ⟨Nat.le_of_ble_eq_true rfl, Nat.le_of_ble_eq_true rfl⟩) ⟨px_blind, (px_recv hK hP gX_0 rfl), fun U hU hW => px_pre hP hK hD hE hS hFc hU hW⟩ rfl rfl hl.1 rfl (lv_room (Nat.le_of_ble_eq_true rfl)) dH_hearAnswer_38 ⟨Nat.le_of_ble_eq_true rfl, Nat.le_of_ble_eq_true rfl⟩) hS (fun q _ h => hFc q h) hFc (fun s4 t H locs ht hvm hw hB _ _ hS => ?_)
    obtain ⟨hP, -, hD⟩ := hB
    rw [ht] at hP
    have hD := hD.weaken (fun _ _ _ h9 => hFc _ h9)
    exact W.vret hx hb hr (fun t ht hW => ⟨⟨s4, rfl, hw, by rw [ht]; exact hP, va_K.moved hW.alike hK, hD⟩, hS.F ht⟩) hS.2.2 dH_hearAnswer_41
  · have hw := hw.2 c1
    refine lv_aload_n hx hb dH_hearAnswer_7 rfl (lv_at hl 1 rfl) ?_
    refine lv_iload_n hx hb dH_hearAnswer_8 rfl (lv_at hl 2 rfl) ?_
    refine va_put (D := D) (ci := 1) (v := .int a1) (ty := .int) (C := RP) (T := TP) (N := 16) hx hb hts inP tyP tyP_ok nmP hown hK hP hD hS (6 + k0) (gX_6 hk0) rfl 8 (by decide) (hts _ tw_98) (fun _ h9 => h9) rfl (by decide +kernel) rfl rfl (Nat.le_of_ble_eq_true rfl) dH_hearAnswer_9 (fun H locs hP hD hS => ?_)
    rw [sX_6_8 hk0] at hP hD
    refine lv_aload_n hx hb dH_hearAnswer_12 rfl (lv_at hl 1 rfl) ?_
    refine lv_iconst (v := 0) hx hb dH_hearAnswer_13 (by decide) ?_
    refine va_put (D := D) (ci := 1) (v := .int 0) (ty := .int) (C := RP) (T := TP) (N := 16) hx hb hts inP tyP tyP_ok nmP hown hK hP hD hS (6 + k0) (gX_6 hk0) rfl 9 (by decide) (hts _ tw_101) (fun _ h9 => h9) rfl (by decide +kernel) rfl rfl (Nat.le_of_ble_eq_true rfl) dH_hearAnswer_14 (fun H locs hP hD hS => ?_)
    rw [sX_6_9 hk0] at hP hD
    refine lv_aload_n hx hb dH_hearAnswer_17 rfl (lv_at hl 0 rfl) ?_
    refine lv_aload_n hx hb dH_hearAnswer_18 rfl (lv_at hl 1 rfl) ?_
    have hFc := px_free hD hS hA
    refine va_callv (va_runV (As := [.ref (ad 6 k0)]) (rest := []) ⟨hx, hb, hml, hown, hts⟩ (c_requestWhatWasAsked l D ca ad (uF 9 k0 0 (uF 8 k0 a1 σ)) k0 hk0 _ _ hw) (cwV 1 hts (gV tw_472 tw_474 tp_13 tw_1 tw_475) rfl rfl rfl (by decide +kernel) ⟨Nat.le_of_ble_eq_true rfl, Nat.le_of_ble_eq_true rfl⟩) ⟨px_blind, (px_recv hK hP gX_0 rfl), fun U hU hW => px_pre hP hK hD hE hS hFc hU hW⟩ rfl rfl hl.1 rfl (lv_room (Nat.le_of_ble_eq_true rfl)) dH_hearAnswer_19 ⟨Nat.le_of_ble_eq_true rfl, Nat.le_of_ble_eq_true rfl⟩) hS (fun q _ h => hFc q h) hFc (fun s6 t H locs ht hvm hw hB _ _ hS => ?_)
    obtain ⟨hP, -, hD⟩ := hB
    rw [ht] at hP
    have hD := hD.weaken (fun _ _ _ h9 => hFc _ h9)
    refine lv_goto (tgt := 41) hx hb dH_hearAnswer_22 (by decide) ?_
    exact W.vret hx hb hr (fun t ht hW => ⟨⟨s6, rfl, hw, by rw [ht]; exact hP, va_K.moved hW.alike hK, hD⟩, hS.F ht⟩) hS.2.2 dH_hearAnswer_41
theorem dH_hearWhoLeads_0 : decode cH_hearWhoLeads 0 = .ok (.iload_n 2, 1) := by decide +kernel
theorem dH_hearWhoLeads_1 : decode cH_hearWhoLeads 1 = .ok (.iconst (-1), 1) := by decide +kernel
theorem dH_hearWhoLeads_2 : decode cH_hearWhoLeads 2 = .ok (.if_icmp .ne 17, 3) := by decide +kernel
theorem dH_hearWhoLeads_5 : decode cH_hearWhoLeads 5 = .ok (.aload_n 1, 1) := by decide +kernel
theorem dH_hearWhoLeads_6 : decode cH_hearWhoLeads 6 = .ok (.invokevirtual 240, 3) := by decide +kernel
theorem dH_hearWhoLeads_9 : decode cH_hearWhoLeads 9 = .ok (.aload_n 0, 1) := by decide +kernel
theorem dH_hearWhoLeads_10 : decode cH_hearWhoLeads 10 = .ok (.aload_n 1, 1) := by decide +kernel
theorem dH_hearWhoLeads_11 : decode cH_hearWhoLeads 11 = .ok (.iconst 5, 1) := by decide +kernel
theorem dH_hearWhoLeads_12 : decode cH_hearWhoLeads 12 = .ok (.iconst 0, 1) := by decide +kernel
theorem dH_hearWhoLeads_13 : decode cH_hearWhoLeads 13 = .ok (.invokevirtual 137, 3) := by decide +kernel
theorem dH_hearWhoLeads_16 : decode cH_hearWhoLeads 16 = .ok (.goto 13, 3) := by decide +kernel
theorem dH_hearWhoLeads_19 : decode cH_hearWhoLeads 19 = .ok (.aload_n 1, 1) := by decide +kernel
theorem dH_hearWhoLeads_20 : decode cH_hearWhoLeads 20 = .ok (.iload_n 2, 1) := by decide +kernel
theorem dH_hearWhoLeads_21 : decode cH_hearWhoLeads 21 = .ok (.putfield 156, 3) := by decide +kernel
theorem dH_hearWhoLeads_24 : decode cH_hearWhoLeads 24 = .ok (.aload_n 0, 1) := by decide +kernel
theorem dH_hearWhoLeads_25 : decode cH_hearWhoLeads 25 = .ok (.aload_n 1, 1) := by decide +kernel
theorem dH_hearWhoLeads_26 : decode cH_hearWhoLeads 26 = .ok (.invokevirtual 231, 3) := by decide +kernel
theorem dH_hearWhoLeads_29 : decode cH_hearWhoLeads 29 = .ok (.return_, 1) := by decide +kernel
def wp_hearWhoLeads (post : Sg → Prop) (σ : Sg) (k0 : Nat) (a1 : Int32) : Prop := ((¬ (a1 = (-1)) → wp_send (fun s2 => post s2) (uF 7 k0 a1 σ) k0) ∧ ((a1 = (-1)) → wp_turnToNextServer (fun s4 => wp_makeAlarm (fun s6 => post s6) s4 k0 5 0) σ k0))
set_option maxHeartbeats 4000000 in
set_option maxRecDepth 100000 in
theorem c_hearWhoLeads (l : Launch) (D : va_G) (ca : Nat → ClassId) (ad : Nat → Nat → Nat) (σ : Sg) (k0 : Nat) (hk0 : k0 < 8) (a1 : Int32) (sz : Nat) (post : Sg → Prop) (hw : wp_hearWhoLeads post σ k0 a1) : Met l yH_hearWhoLeads wsH_hearWhoLeads ({ frames := 4, cells := 0, slots := 0, locals := 87 }) (va_Pc [.ref (ad 0 0), .ref (ad 6 k0), .int a1] (preX D ca ad σ sz)) (va_Qv post (atX D ca ad (va_A (wX ca ad σ) sz)) (va_A (wX ca ad σ) sz)) 0 0 (va_A (wX ca ad σ) sz) := by
  refine Met.ofW (cc := cH_hearWhoLeads) (maxL := 3) (ret := none) (by decide) rfl ?_
  intro p e s m args below meth c s₁ B hml hv
  obtain ⟨rfl, hsz, hP, hK, hD0, hE⟩ := hv
  have hx := B.exec
  have hb := B.bytes
  have hr := B.returns
  have hts : ∀ w ∈ tbG, w.before _ s = true := fun w h => atoms_spec (ws := wsH_hearWhoLeads) B.pre w (List.mem_cons_of_mem _ h)
  have hown : s.vm.findClass RH = some m.cls := findClass_of_methodNamed B.named
  have hlocks := B.notSynchronized
  subst hsz
  have hD := hD0.self (sz := s.heap.size)
  generalize hAe : va_A (wX ca ad σ) s.heap.size = A at hD hE ⊢
  have hA : ∀ q : Nat, s.heap.size ≤ q → A q := fun q h => by rw [← hAe]; exact Or.inr h
  clear hAe
  have hS : va_S A s.heap s.heap [] := va_S.rf
  have hl := lv_entry ([.ref (ad 0 0), .ref (ad 6 k0), .int a1]) (n := 3) (Nat.le_of_ble_eq_true rfl)
  rw [lg_entry_eq]
  generalize (lg_sl ([.ref (ad 0 0), .ref (ad 6 k0), .int a1]) ++ List.replicate (3 - (lg_sl ([.ref (ad 0 0), .ref (ad 6 k0), .int a1])).length) Slot.unset).toArray = ls at hl ⊢
  have hl : lv_has ls 3 [(0, .ref (ad 0 0)), (1, .ref (ad 6 k0)), (2, .int a1)] := hl
  unfold wp_hearWhoLeads at hw
  have hP : va_P D clX (wX ca ad σ) s.heap := hP
  refine lv_iload_n hx hb dH_hearWhoLeads_0 rfl (lv_at hl 2 rfl) ?_
  refine lv_iconst (v := (-1)) hx hb dH_hearWhoLeads_1 (by decide) ?_
  refine lv_icmp_ne (tgt := 19) hx hb dH_hearWhoLeads_2 (by decide) (fun c1 => ?_) (fun c1 => ?_)
  · have hw := hw.1 c1
    refine lv_aload_n hx hb dH_hearWhoLeads_19 rfl (lv_at hl 1 rfl) ?_
    refine lv_iload_n hx hb dH_hearWhoLeads_20 rfl (lv_at hl 2 rfl) ?_
    refine va_put (D := D) (ci := 1) (v := .int a1) (ty := .int) (C := RP) (T := TP) (N := 16) hx hb hts inP tyP tyP_ok nmP hown hK hP hD hS (6 + k0) (gX_6 hk0) rfl 7 (by decide) (hts _ tw_95) (fun _ h9 => h9) rfl (by decide +kernel) rfl rfl (Nat.le_of_ble_eq_true rfl) dH_hearWhoLeads_21 (fun H locs hP hD hS => ?_)
    rw [sX_6_7 hk0] at hP hD
    refine lv_aload_n hx hb dH_hearWhoLeads_24 rfl (lv_at hl 0 rfl) ?_
    refine lv_aload_n hx hb dH_hearWhoLeads_25 rfl (lv_at hl 1 rfl) ?_
    have hFc := px_free hD hS hA
    refine va_callv (va_runV (As := [.ref (ad 6 k0)]) (rest := []) ⟨hx, hb, hml, hown, hts⟩ (c_send l D ca ad (uF 7 k0 a1 σ) k0 hk0 _ _ hw) (cwV 1 hts (gV tw_447 tw_449 tp_9 tw_1 tw_450) rfl rfl rfl (by decide +kernel) ⟨Nat.le_of_ble_eq_true rfl, Nat.le_of_ble_eq_true rfl⟩) ⟨px_blind, (px_recv hK hP gX_0 rfl), fun U hU hW => px_pre hP hK hD hE hS hFc hU hW⟩ rfl rfl hl.1 rfl (lv_room (Nat.le_of_ble_eq_true rfl)) dH_hearWhoLeads_26 ⟨Nat.le_of_ble_eq_true rfl, Nat.le_of_ble_eq_true rfl⟩) hS (fun q _ h => hFc q h) hFc (fun s2 t H locs ht hvm hw hB _ _ hS => ?_)
    obtain ⟨hP, -, hD⟩ := hB
    rw [ht] at hP
    have hD := hD.weaken (fun _ _ _ h9 => hFc _ h9)
    exact W.vret hx hb hr (fun t ht hW => ⟨⟨s2, rfl, hw, by rw [ht]; exact hP, va_K.moved hW.alike hK, hD⟩, hS.F ht⟩) hS.2.2 dH_hearWhoLeads_29
  · have hw := hw.2 c1
    refine lv_aload_n hx hb dH_hearWhoLeads_5 rfl (lv_at hl 1 rfl) ?_
    have hFc := px_free hD hS hA
    refine va_callv (va_runV (As := []) (rest := []) ⟨hx, hb, hml, hown, hts⟩ (c_turnToNextServer l D ca ad σ k0 hk0 _ _ hw) (cwV 0 hts (gV tw_507 tw_508 tw_509 tw_6 tw_510) rfl rfl rfl (by decide +kernel) ⟨Nat.le_of_ble_eq_true rfl, Nat.le_of_ble_eq_true rfl⟩) ⟨px_blind, (px_recv hK hP (gX_6 hk0) rfl), fun U hU hW => px_pre hP hK hD hE hS hFc hU hW⟩ rfl rfl hl.1 rfl (lv_room (Nat.le_of_ble_eq_true rfl)) dH_hearWhoLeads_6 ⟨Nat.le_of_ble_eq_true rfl, Nat.le_of_ble_eq_true rfl⟩) hS (fun q _ h => hFc q h) hFc (fun s4 t H locs ht hvm hw hB _ _ hS => ?_)
    obtain ⟨hP, -, hD⟩ := hB
    rw [ht] at hP
    have hD := hD.weaken (fun _ _ _ h9 => hFc _ h9)
    refine lv_aload_n hx hb dH_hearWhoLeads_9 rfl (lv_at hl 0 rfl) ?_
    refine lv_aload_n hx hb dH_hearWhoLeads_10 rfl (lv_at hl 1 rfl) ?_
    refine lv_iconst (v := 5) hx hb dH_hearWhoLeads_11 (by decide) ?_
    refine lv_iconst (v := 0) hx hb dH_hearWhoLeads_12 (by decide) ?_
    have hFc := px_free hD hS hA
    refine va_callv (va_runV (As := [.ref (ad 6 k0), .int 5, .int 0]) (rest := []) ⟨hx, hb, hml, hown, hts⟩ (c_makeAlarm l D ca ad s4 k0 hk0 5 0 _ _ hw) (cwV 3 hts (gV tw_468 tw_470 tp_12 tw_1 tw_471) rfl rfl rfl (by decide +kernel) ⟨Nat.le_of_ble_eq_true rfl, Nat.le_of_ble_eq_true rfl⟩) ⟨px_blind, (px_recv hK hP gX_0 rfl), fun U hU hW => px_pre hP hK hD hE hS hFc hU hW⟩ rfl rfl hl.1 rfl (lv_room (Nat.le_of_ble_eq_true rfl)) dH_hearWhoLeads_13 ⟨Nat.le_of_ble_eq_true rfl, Nat.le_of_ble_eq_true rfl⟩) hS (fun q _ h => hFc q h) hFc (fun s6 t H locs ht hvm hw hB _ _ hS => ?_)
    obtain ⟨hP, -, hD⟩ := hB
    rw [ht] at hP
    have hD := hD.weaken (fun _ _ _ h9 => hFc _ h9)
    refine lv_goto (tgt := 29) hx hb dH_hearWhoLeads_16 (by decide) ?_
    exact W.vret hx hb hr (fun t ht hW => ⟨⟨s6, rfl, hw, by rw [ht]; exact hP, va_K.moved hW.alike hK, hD⟩, hS.F ht⟩) hS.2.2 dH_hearWhoLeads_29
