theorem dX7_meet_0 : decode cX7_meet 0 = .ok (.aload_n 0, 1) := by decide +kernel
theorem dX7_meet_1 : decode cX7_meet 1 = .ok (.getfield 30, 3) := by decide +kernel
theorem dX7_meet_4 : decode cX7_meet 4 = .ok (.bipush 65, 2) := by decide +kernel
theorem dX7_meet_6 : decode cX7_meet 6 = .ok (.dup2, 1) := by decide +kernel
theorem dX7_meet_7 : decode cX7_meet 7 = .ok (.iaload, 1) := by decide +kernel
theorem dX7_meet_8 : decode cX7_meet 8 = .ok (.iconst 1, 1) := by decide +kernel
theorem dX7_meet_9 : decode cX7_meet 9 = .ok (.iadd, 1) := by decide +kernel
theorem dX7_meet_10 : decode cX7_meet 10 = .ok (.iastore, 1) := by decide +kernel
theorem dX7_meet_11 : decode cX7_meet 11 = .ok (.aload_n 0, 1) := by decide +kernel
theorem dX7_meet_12 : decode cX7_meet 12 = .ok (.iload_n 1, 1) := by decide +kernel
theorem dX7_meet_13 : decode cX7_meet 13 = .ok (.invokevirtual 82, 3) := by decide +kernel
theorem dX7_meet_16 : decode cX7_meet 16 = .ok (.istore 4, 2) := by decide +kernel
theorem dX7_meet_18 : decode cX7_meet 18 = .ok (.iload_n 2, 1) := by decide +kernel
theorem dX7_meet_19 : decode cX7_meet 19 = .ok (.ifCond .ne 5, 3) := by decide +kernel
theorem dX7_meet_22 : decode cX7_meet 22 = .ok (.iconst 0, 1) := by decide +kernel
theorem dX7_meet_23 : decode cX7_meet 23 = .ok (.ireturn, 1) := by decide +kernel
theorem dX7_meet_24 : decode cX7_meet 24 = .ok (.iload 4, 2) := by decide +kernel
theorem dX7_meet_26 : decode cX7_meet 26 = .ok (.ifCond .lt 36, 3) := by decide +kernel
theorem dX7_meet_29 : decode cX7_meet 29 = .ok (.iload_n 3, 1) := by decide +kernel
theorem dX7_meet_30 : decode cX7_meet 30 = .ok (.ifCond .le 32, 3) := by decide +kernel
theorem dX7_meet_33 : decode cX7_meet 33 = .ok (.aload_n 0, 1) := by decide +kernel
theorem dX7_meet_34 : decode cX7_meet 34 = .ok (.iload 4, 2) := by decide +kernel
theorem dX7_meet_36 : decode cX7_meet 36 = .ok (.iload_n 3, 1) := by decide +kernel
theorem dX7_meet_37 : decode cX7_meet 37 = .ok (.invokevirtual 98, 3) := by decide +kernel
theorem dX7_meet_40 : decode cX7_meet 40 = .ok (.ifCond .eq 22, 3) := by decide +kernel
theorem dX7_meet_43 : decode cX7_meet 43 = .ok (.aload_n 0, 1) := by decide +kernel
theorem dX7_meet_44 : decode cX7_meet 44 = .ok (.getfield 30, 3) := by decide +kernel
theorem dX7_meet_47 : decode cX7_meet 47 = .ok (.bipush 66, 2) := by decide +kernel
theorem dX7_meet_49 : decode cX7_meet 49 = .ok (.dup2, 1) := by decide +kernel
theorem dX7_meet_50 : decode cX7_meet 50 = .ok (.iaload, 1) := by decide +kernel
theorem dX7_meet_51 : decode cX7_meet 51 = .ok (.iconst 1, 1) := by decide +kernel
theorem dX7_meet_52 : decode cX7_meet 52 = .ok (.iadd, 1) := by decide +kernel
theorem dX7_meet_53 : decode cX7_meet 53 = .ok (.iastore, 1) := by decide +kernel
theorem dX7_meet_54 : decode cX7_meet 54 = .ok (.aload_n 0, 1) := by decide +kernel
theorem dX7_meet_55 : decode cX7_meet 55 = .ok (.bipush 126, 2) := by decide +kernel
theorem dX7_meet_57 : decode cX7_meet 57 = .ok (.invokevirtual 95, 3) := by decide +kernel
theorem dX7_meet_60 : decode cX7_meet 60 = .ok (.iconst 1, 1) := by decide +kernel
theorem dX7_meet_61 : decode cX7_meet 61 = .ok (.ireturn, 1) := by decide +kernel
theorem dX7_meet_62 : decode cX7_meet 62 = .ok (.aload_n 0, 1) := by decide +kernel
theorem dX7_meet_63 : decode cX7_meet 63 = .ok (.iload_n 1, 1) := by decide +kernel
theorem dX7_meet_64 : decode cX7_meet 64 = .ok (.invokevirtual 102, 3) := by decide +kernel
theorem dX7_meet_67 : decode cX7_meet 67 = .ok (.istore 4, 2) := by decide +kernel
theorem dX7_meet_69 : decode cX7_meet 69 = .ok (.iload 4, 2) := by decide +kernel
theorem dX7_meet_71 : decode cX7_meet 71 = .ok (.ifCond .ge 22, 3) := by decide +kernel
theorem dX7_meet_74 : decode cX7_meet 74 = .ok (.aload_n 0, 1) := by decide +kernel
theorem dX7_meet_75 : decode cX7_meet 75 = .ok (.getfield 30, 3) := by decide +kernel
theorem dX7_meet_78 : decode cX7_meet 78 = .ok (.bipush 67, 2) := by decide +kernel
theorem dX7_meet_80 : decode cX7_meet 80 = .ok (.dup2, 1) := by decide +kernel
theorem dX7_meet_81 : decode cX7_meet 81 = .ok (.iaload, 1) := by decide +kernel
theorem dX7_meet_82 : decode cX7_meet 82 = .ok (.iconst 1, 1) := by decide +kernel
theorem dX7_meet_83 : decode cX7_meet 83 = .ok (.iadd, 1) := by decide +kernel
theorem dX7_meet_84 : decode cX7_meet 84 = .ok (.iastore, 1) := by decide +kernel
theorem dX7_meet_85 : decode cX7_meet 85 = .ok (.aload_n 0, 1) := by decide +kernel
theorem dX7_meet_86 : decode cX7_meet 86 = .ok (.bipush 63, 2) := by decide +kernel
theorem dX7_meet_88 : decode cX7_meet 88 = .ok (.invokevirtual 95, 3) := by decide +kernel
theorem dX7_meet_91 : decode cX7_meet 91 = .ok (.iconst 2, 1) := by decide +kernel
theorem dX7_meet_92 : decode cX7_meet 92 = .ok (.ireturn, 1) := by decide +kernel
theorem dX7_meet_93 : decode cX7_meet 93 = .ok (.aload_n 0, 1) := by decide +kernel
theorem dX7_meet_94 : decode cX7_meet 94 = .ok (.iload 4, 2) := by decide +kernel
theorem dX7_meet_96 : decode cX7_meet 96 = .ok (.aload_n 0, 1) := by decide +kernel
theorem dX7_meet_97 : decode cX7_meet 97 = .ok (.getfield 30, 3) := by decide +kernel
theorem dX7_meet_100 : decode cX7_meet 100 = .ok (.bipush 63, 2) := by decide +kernel
theorem dX7_meet_102 : decode cX7_meet 102 = .ok (.iaload, 1) := by decide +kernel
theorem dX7_meet_103 : decode cX7_meet 103 = .ok (.invokevirtual 79, 3) := by decide +kernel
theorem dX7_meet_106 : decode cX7_meet 106 = .ok (.iload_n 2, 1) := by decide +kernel
theorem dX7_meet_107 : decode cX7_meet 107 = .ok (.iadd, 1) := by decide +kernel
theorem dX7_meet_108 : decode cX7_meet 108 = .ok (.istore 5, 2) := by decide +kernel
theorem dX7_meet_110 : decode cX7_meet 110 = .ok (.aload_n 0, 1) := by decide +kernel
theorem dX7_meet_111 : decode cX7_meet 111 = .ok (.getfield 30, 3) := by decide +kernel
theorem dX7_meet_114 : decode cX7_meet 114 = .ok (.iload 4, 2) := by decide +kernel
theorem dX7_meet_116 : decode cX7_meet 116 = .ok (.iconst 1, 1) := by decide +kernel
theorem dX7_meet_117 : decode cX7_meet 117 = .ok (.invokestatic 72, 3) := by decide +kernel
theorem dX7_meet_120 : decode cX7_meet 120 = .ok (.iload 5, 2) := by decide +kernel
theorem dX7_meet_122 : decode cX7_meet 122 = .ok (.aload_n 0, 1) := by decide +kernel
theorem dX7_meet_123 : decode cX7_meet 123 = .ok (.bipush 6, 2) := by decide +kernel
theorem dX7_meet_125 : decode cX7_meet 125 = .ok (.invokevirtual 69, 3) := by decide +kernel
theorem dX7_meet_128 : decode cX7_meet 128 = .ok (.if_icmp .ge 8, 3) := by decide +kernel
theorem dX7_meet_131 : decode cX7_meet 131 = .ok (.iload 5, 2) := by decide +kernel
theorem dX7_meet_133 : decode cX7_meet 133 = .ok (.goto 9, 3) := by decide +kernel
theorem dX7_meet_136 : decode cX7_meet 136 = .ok (.aload_n 0, 1) := by decide +kernel
theorem dX7_meet_137 : decode cX7_meet 137 = .ok (.bipush 6, 2) := by decide +kernel
theorem dX7_meet_139 : decode cX7_meet 139 = .ok (.invokevirtual 69, 3) := by decide +kernel
theorem dX7_meet_142 : decode cX7_meet 142 = .ok (.iastore, 1) := by decide +kernel
theorem dX7_meet_143 : decode cX7_meet 143 = .ok (.aload_n 0, 1) := by decide +kernel
theorem dX7_meet_144 : decode cX7_meet 144 = .ok (.getfield 30, 3) := by decide +kernel
theorem dX7_meet_147 : decode cX7_meet 147 = .ok (.iload 4, 2) := by decide +kernel
theorem dX7_meet_149 : decode cX7_meet 149 = .ok (.iconst 2, 1) := by decide +kernel
theorem dX7_meet_150 : decode cX7_meet 150 = .ok (.invokestatic 72, 3) := by decide +kernel
theorem dX7_meet_153 : decode cX7_meet 153 = .ok (.aload_n 0, 1) := by decide +kernel
theorem dX7_meet_154 : decode cX7_meet 154 = .ok (.getfield 30, 3) := by decide +kernel
theorem dX7_meet_157 : decode cX7_meet 157 = .ok (.bipush 63, 2) := by decide +kernel
theorem dX7_meet_159 : decode cX7_meet 159 = .ok (.iaload, 1) := by decide +kernel
theorem dX7_meet_160 : decode cX7_meet 160 = .ok (.iastore, 1) := by decide +kernel
theorem dX7_meet_161 : decode cX7_meet 161 = .ok (.iload_n 3, 1) := by decide +kernel
theorem dX7_meet_162 : decode cX7_meet 162 = .ok (.ifCond .le 10, 3) := by decide +kernel
theorem dX7_meet_165 : decode cX7_meet 165 = .ok (.aload_n 0, 1) := by decide +kernel
theorem dX7_meet_166 : decode cX7_meet 166 = .ok (.iload 4, 2) := by decide +kernel
theorem dX7_meet_168 : decode cX7_meet 168 = .ok (.iload_n 3, 1) := by decide +kernel
theorem dX7_meet_169 : decode cX7_meet 169 = .ok (.invokevirtual 105, 3) := by decide +kernel
theorem dX7_meet_172 : decode cX7_meet 172 = .ok (.aload_n 0, 1) := by decide +kernel
theorem dX7_meet_173 : decode cX7_meet 173 = .ok (.bipush 43, 2) := by decide +kernel
theorem dX7_meet_175 : decode cX7_meet 175 = .ok (.invokevirtual 95, 3) := by decide +kernel
theorem dX7_meet_178 : decode cX7_meet 178 = .ok (.aload_n 0, 1) := by decide +kernel
theorem dX7_meet_179 : decode cX7_meet 179 = .ok (.iload_n 2, 1) := by decide +kernel
theorem dX7_meet_180 : decode cX7_meet 180 = .ok (.invokevirtual 109, 3) := by decide +kernel
theorem dX7_meet_183 : decode cX7_meet 183 = .ok (.aload_n 0, 1) := by decide +kernel
theorem dX7_meet_184 : decode cX7_meet 184 = .ok (.bipush 61, 2) := by decide +kernel
theorem dX7_meet_186 : decode cX7_meet 186 = .ok (.invokevirtual 95, 3) := by decide +kernel
theorem dX7_meet_189 : decode cX7_meet 189 = .ok (.aload_n 0, 1) := by decide +kernel
theorem dX7_meet_190 : decode cX7_meet 190 = .ok (.aload_n 0, 1) := by decide +kernel
theorem dX7_meet_191 : decode cX7_meet 191 = .ok (.getfield 30, 3) := by decide +kernel
theorem dX7_meet_194 : decode cX7_meet 194 = .ok (.iload 4, 2) := by decide +kernel
theorem dX7_meet_196 : decode cX7_meet 196 = .ok (.iconst 1, 1) := by decide +kernel
theorem dX7_meet_197 : decode cX7_meet 197 = .ok (.invokestatic 72, 3) := by decide +kernel
theorem dX7_meet_200 : decode cX7_meet 200 = .ok (.iaload, 1) := by decide +kernel
theorem dX7_meet_201 : decode cX7_meet 201 = .ok (.invokevirtual 109, 3) := by decide +kernel
theorem dX7_meet_204 : decode cX7_meet 204 = .ok (.aload_n 0, 1) := by decide +kernel
theorem dX7_meet_205 : decode cX7_meet 205 = .ok (.getfield 30, 3) := by decide +kernel
theorem dX7_meet_208 : decode cX7_meet 208 = .ok (.iload 4, 2) := by decide +kernel
theorem dX7_meet_210 : decode cX7_meet 210 = .ok (.iconst 1, 1) := by decide +kernel
theorem dX7_meet_211 : decode cX7_meet 211 = .ok (.invokestatic 72, 3) := by decide +kernel
theorem dX7_meet_214 : decode cX7_meet 214 = .ok (.iaload, 1) := by decide +kernel
theorem dX7_meet_215 : decode cX7_meet 215 = .ok (.aload_n 0, 1) := by decide +kernel
theorem dX7_meet_216 : decode cX7_meet 216 = .ok (.iconst 4, 1) := by decide +kernel
theorem dX7_meet_217 : decode cX7_meet 217 = .ok (.invokevirtual 69, 3) := by decide +kernel
theorem dX7_meet_220 : decode cX7_meet 220 = .ok (.if_icmp .le 12, 3) := by decide +kernel
theorem dX7_meet_223 : decode cX7_meet 223 = .ok (.aload_n 0, 1) := by decide +kernel
theorem dX7_meet_224 : decode cX7_meet 224 = .ok (.iload 4, 2) := by decide +kernel
theorem dX7_meet_226 : decode cX7_meet 226 = .ok (.invokevirtual 85, 3) := by decide +kernel
theorem dX7_meet_229 : decode cX7_meet 229 = .ok (.ifCond .eq 5, 3) := by decide +kernel
theorem dX7_meet_232 : decode cX7_meet 232 = .ok (.iconst 3, 1) := by decide +kernel
theorem dX7_meet_233 : decode cX7_meet 233 = .ok (.ireturn, 1) := by decide +kernel
theorem dX7_meet_234 : decode cX7_meet 234 = .ok (.aload_n 0, 1) := by decide +kernel
theorem dX7_meet_235 : decode cX7_meet 235 = .ok (.getfield 30, 3) := by decide +kernel
theorem dX7_meet_238 : decode cX7_meet 238 = .ok (.iload 4, 2) := by decide +kernel
theorem dX7_meet_240 : decode cX7_meet 240 = .ok (.iconst 3, 1) := by decide +kernel
theorem dX7_meet_241 : decode cX7_meet 241 = .ok (.invokestatic 72, 3) := by decide +kernel
theorem dX7_meet_244 : decode cX7_meet 244 = .ok (.iconst 1, 1) := by decide +kernel
theorem dX7_meet_245 : decode cX7_meet 245 = .ok (.iastore, 1) := by decide +kernel
theorem dX7_meet_246 : decode cX7_meet 246 = .ok (.aload_n 0, 1) := by decide +kernel
theorem dX7_meet_247 : decode cX7_meet 247 = .ok (.getfield 30, 3) := by decide +kernel
theorem dX7_meet_250 : decode cX7_meet 250 = .ok (.iload 4, 2) := by decide +kernel
theorem dX7_meet_252 : decode cX7_meet 252 = .ok (.iconst 4, 1) := by decide +kernel
theorem dX7_meet_253 : decode cX7_meet 253 = .ok (.invokestatic 72, 3) := by decide +kernel
theorem dX7_meet_256 : decode cX7_meet 256 = .ok (.aload_n 0, 1) := by decide +kernel
theorem dX7_meet_257 : decode cX7_meet 257 = .ok (.iload 4, 2) := by decide +kernel
theorem dX7_meet_259 : decode cX7_meet 259 = .ok (.aload_n 0, 1) := by decide +kernel
theorem dX7_meet_260 : decode cX7_meet 260 = .ok (.getfield 30, 3) := by decide +kernel
theorem dX7_meet_263 : decode cX7_meet 263 = .ok (.bipush 63, 2) := by decide +kernel
theorem dX7_meet_265 : decode cX7_meet 265 = .ok (.iaload, 1) := by decide +kernel
theorem dX7_meet_266 : decode cX7_meet 266 = .ok (.invokevirtual 112, 3) := by decide +kernel
theorem dX7_meet_269 : decode cX7_meet 269 = .ok (.iastore, 1) := by decide +kernel
theorem dX7_meet_270 : decode cX7_meet 270 = .ok (.aload_n 0, 1) := by decide +kernel
theorem dX7_meet_271 : decode cX7_meet 271 = .ok (.bipush 33, 2) := by decide +kernel
theorem dX7_meet_273 : decode cX7_meet 273 = .ok (.invokevirtual 95, 3) := by decide +kernel
theorem dX7_meet_276 : decode cX7_meet 276 = .ok (.iconst 4, 1) := by decide +kernel
theorem dX7_meet_277 : decode cX7_meet 277 = .ok (.ireturn, 1) := by decide +kernel
set_option maxHeartbeats 4000000 in
set_option maxRecDepth 100000 in
theorem wM_meet_172 {p : Program} {l : Launch} {e : Env} {s : State} {m : MethodId} {args : Array Value} {below : List Frame} {meth : Method} {c : Code} {E : fd_E} (C : fd_C p s m args c yX7_meet.cls cX7_meet 6 E) (hr : meth.sig.returnType = (some .int)) (hlk : meth.locks = false) (fu : Nat) {r0 : Int32} {S0 : fd_S} : ∀ (S : fd_S) (x2 : Int32) (x4 : Int32) (H : Heap) (locs : List Loc) (ls : Array Slot), zM_meet_172 fu S x2 x4 = some (r0, S0) → fd_H E S s H locs → lv_has ls 6 [(0, .ref (E.2.2 73)), (2, .int x2), (4, .int x4)] → W p l e (fd_rm 4 93) s m args below meth c H locs 0 0 (MQ below (fd_Q E (some (.int r0)) S0) args s 0 0 (fd_A E)) (F0 m 172 ls []) := by
  have hx := C.1
  have hb := C.2.1
  intro S x2 x4 H locs ls hf hH hl
  unfold zM_meet_172 at hf
  refine lv_aload_n hx hb dX7_meet_172 rfl (lv_at hl 0 rfl) ?_
  refine lv_bipush (v := (43 : Int32)) hx hb dX7_meet_173 (by decide) ?_
  obtain ⟨S24, e25, hf⟩ := fd_bnd hf
  refine fd_callV0 73 7 [.int (43 : Int32)] C hl.1 hH (cM_write l E S (43 : Int32) e25) wm_X7_95 (by decide) rfl (by decide) rfl ⟨rfl, rfl, Nat.le_of_ble_eq_true rfl, Nat.le_of_ble_eq_true rfl⟩ rfl rfl (Nat.le_of_ble_eq_true rfl) ⟨Nat.le_refl _, Nat.le_refl _⟩ dX7_meet_175 (fun H locs hH => ?_)
  refine lv_aload_n hx hb dX7_meet_178 rfl (lv_at hl 0 rfl) ?_
  refine lv_iload_n hx hb dX7_meet_179 rfl (lv_at hl 1 rfl) ?_
  obtain ⟨S26, e27, hf⟩ := fd_bnd hf
  refine fd_callV0 73 7 [.int x2] C hl.1 hH (cM_writeNumber l E fu S24 x2 e27) wm_X7_109 (by decide) rfl (by decide) rfl ⟨rfl, rfl, Nat.le_of_ble_eq_true rfl, Nat.le_of_ble_eq_true rfl⟩ rfl rfl (Nat.le_of_ble_eq_true rfl) ⟨Nat.le_refl _, Nat.le_refl _⟩ dX7_meet_180 (fun H locs hH => ?_)
  refine lv_aload_n hx hb dX7_meet_183 rfl (lv_at hl 0 rfl) ?_
  refine lv_bipush (v := (61 : Int32)) hx hb dX7_meet_184 (by decide) ?_
  obtain ⟨S28, e29, hf⟩ := fd_bnd hf
  refine fd_callV0 73 7 [.int (61 : Int32)] C hl.1 hH (cM_write l E S26 (61 : Int32) e29) wm_X7_95 (by decide) rfl (by decide) rfl ⟨rfl, rfl, Nat.le_of_ble_eq_true rfl, Nat.le_of_ble_eq_true rfl⟩ rfl rfl (Nat.le_of_ble_eq_true rfl) ⟨Nat.le_refl _, Nat.le_refl _⟩ dX7_meet_186 (fun H locs hH => ?_)
  refine lv_aload_n hx hb dX7_meet_189 rfl (lv_at hl 0 rfl) ?_
  refine lv_aload_n hx hb dX7_meet_190 rfl (lv_at hl 0 rfl) ?_
  refine fd_get 73 7 4 C hH (by decide) rfl (by decide) (by decide) wf_X7_30 (v := .ref (E.2.2 78)) rfl dX7_meet_191 ?_
  refine lv_iload hx hb dX7_meet_194 (lv_at hl 2 rfl) ?_
  refine lv_iconst (v := (1 : Int32)) hx hb dX7_meet_196 (by decide) ?_
  refine fd_callS1 [.int x4, .int (1 : Int32)] C hl.1 hH (cM_at l E S28 x4 (1 : Int32)) wm_X7_72 ⟨rfl, rfl, Nat.le_of_ble_eq_true rfl, Nat.le_of_ble_eq_true rfl⟩ rfl rfl (Nat.le_of_ble_eq_true rfl) ⟨Nat.le_refl _, Nat.le_refl _⟩ dX7_meet_197 (fun H locs hH => ?_)
  obtain ⟨g30, hf⟩ := fd_grd hf
  refine fd_iald 78 (275 : Int32) C hH (by decide) rfl rfl g30 dX7_meet_200 ?_
  obtain ⟨S31, e32, hf⟩ := fd_bnd hf
  refine fd_callV0 73 7 [.int (S28 78 (zM_at x4 (1 : Int32)))] C hl.1 hH (cM_writeNumber l E fu S28 (S28 78 (zM_at x4 (1 : Int32))) e32) wm_X7_109 (by decide) rfl (by decide) rfl ⟨rfl, rfl, Nat.le_of_ble_eq_true rfl, Nat.le_of_ble_eq_true rfl⟩ rfl rfl (Nat.le_of_ble_eq_true rfl) ⟨Nat.le_refl _, Nat.le_refl _⟩ dX7_meet_201 (fun H locs hH => ?_)
  refine lv_aload_n hx hb dX7_meet_204 rfl (lv_at hl 0 rfl) ?_
  refine fd_get 73 7 4 C hH (by decide) rfl (by decide) (by decide) wf_X7_30 (v := .ref (E.2.2 78)) rfl dX7_meet_205 ?_
  refine lv_iload hx hb dX7_meet_208 (lv_at hl 2 rfl) ?_
  refine lv_iconst (v := (1 : Int32)) hx hb dX7_meet_210 (by decide) ?_
  refine fd_callS1 [.int x4, .int (1 : Int32)] C hl.1 hH (cM_at l E S31 x4 (1 : Int32)) wm_X7_72 ⟨rfl, rfl, Nat.le_of_ble_eq_true rfl, Nat.le_of_ble_eq_true rfl⟩ rfl rfl (Nat.le_of_ble_eq_true rfl) ⟨Nat.le_refl _, Nat.le_refl _⟩ dX7_meet_211 (fun H locs hH => ?_)
  obtain ⟨g33, hf⟩ := fd_grd hf
  refine fd_iald 78 (275 : Int32) C hH (by decide) rfl rfl g33 dX7_meet_214 ?_
  refine lv_aload_n hx hb dX7_meet_215 rfl (lv_at hl 0 rfl) ?_
  refine lv_iconst (v := (4 : Int32)) hx hb dX7_meet_216 (by decide) ?_
  obtain ⟨r34, e35, hf⟩ := fd_bnd hf
  refine fd_callV1 73 7 [.int (4 : Int32)] C hl.1 hH (cM_bounded l E S31 (4 : Int32) e35) wm_X7_69 (by decide) rfl (by decide) rfl ⟨rfl, rfl, Nat.le_of_ble_eq_true rfl, Nat.le_of_ble_eq_true rfl⟩ rfl rfl (Nat.le_of_ble_eq_true rfl) ⟨Nat.le_refl _, Nat.le_refl _⟩ dX7_meet_217 (fun H locs hH => ?_)
  refine lv_icmp_le (tgt := 232) hx hb dX7_meet_220 (by decide) (fun c36 => ?_) (fun c36 => ?_)
  · have hf := fd_ifp c36 hf
    refine lv_iconst (v := (3 : Int32)) hx hb dX7_meet_232 (by decide) ?_
    cases hf
    exact fd_iret C hr hlk hH dX7_meet_233
  · have hf := fd_ifn c36 hf
    refine lv_aload_n hx hb dX7_meet_223 rfl (lv_at hl 0 rfl) ?_
    refine lv_iload hx hb dX7_meet_224 (lv_at hl 2 rfl) ?_
    obtain ⟨r37, e38, hf⟩ := fd_bnd hf
    refine fd_callV1 73 7 [.int x4] C hl.1 hH (cM_isHeld l E S31 x4 e38) wm_X7_85 (by decide) rfl (by decide) rfl ⟨rfl, rfl, Nat.le_of_ble_eq_true rfl, Nat.le_of_ble_eq_true rfl⟩ rfl rfl (Nat.le_of_ble_eq_true rfl) ⟨Nat.le_refl _, Nat.le_refl _⟩ dX7_meet_226 (fun H locs hH => ?_)
    refine lv_if_eq (tgt := 234) hx hb dX7_meet_229 (by decide) (fun c39 => ?_) (fun c39 => ?_)
    · have hf := fd_ifp c39 hf
      refine lv_aload_n hx hb dX7_meet_234 rfl (lv_at hl 0 rfl) ?_
      refine fd_get 73 7 4 C hH (by decide) rfl (by decide) (by decide) wf_X7_30 (v := .ref (E.2.2 78)) rfl dX7_meet_235 ?_
      refine lv_iload hx hb dX7_meet_238 (lv_at hl 2 rfl) ?_
      refine lv_iconst (v := (3 : Int32)) hx hb dX7_meet_240 (by decide) ?_
      refine fd_callS1 [.int x4, .int (3 : Int32)] C hl.1 hH (cM_at l E S31 x4 (3 : Int32)) wm_X7_72 ⟨rfl, rfl, Nat.le_of_ble_eq_true rfl, Nat.le_of_ble_eq_true rfl⟩ rfl rfl (Nat.le_of_ble_eq_true rfl) ⟨Nat.le_refl _, Nat.le_refl _⟩ dX7_meet_241 (fun H locs hH => ?_)
      refine lv_iconst (v := (1 : Int32)) hx hb dX7_meet_244 (by decide) ?_
      obtain ⟨g40, hf⟩ := fd_grd hf
      refine fd_iast 78 (275 : Int32) C hH (by decide) rfl rfl g40 dX7_meet_245 (fun H locs hH => ?_)
      obtain ⟨S41, eS41, hf⟩ := fd_ltS hf
      rw [← eS41] at hH
      refine lv_aload_n hx hb dX7_meet_246 rfl (lv_at hl 0 rfl) ?_
      refine fd_get 73 7 4 C hH (by decide) rfl (by decide) (by decide) wf_X7_30 (v := .ref (E.2.2 78)) rfl dX7_meet_247 ?_
      refine lv_iload hx hb dX7_meet_250 (lv_at hl 2 rfl) ?_
      refine lv_iconst (v := (4 : Int32)) hx hb dX7_meet_252 (by decide) ?_
      refine fd_callS1 [.int x4, .int (4 : Int32)] C hl.1 hH (cM_at l E S41 x4 (4 : Int32)) wm_X7_72 ⟨rfl, rfl, Nat.le_of_ble_eq_true rfl, Nat.le_of_ble_eq_true rfl⟩ rfl rfl (Nat.le_of_ble_eq_true rfl) ⟨Nat.le_refl _, Nat.le_refl _⟩ dX7_meet_253 (fun H locs hH => ?_)
      refine lv_aload_n hx hb dX7_meet_256 rfl (lv_at hl 0 rfl) ?_
      refine lv_iload hx hb dX7_meet_257 (lv_at hl 2 rfl) ?_
      refine lv_aload_n hx hb dX7_meet_259 rfl (lv_at hl 0 rfl) ?_
      refine fd_get 73 7 4 C hH (by decide) rfl (by decide) (by decide) wf_X7_30 (v := .ref (E.2.2 78)) rfl dX7_meet_260 ?_
      refine lv_bipush (v := (63 : Int32)) hx hb dX7_meet_263 (by decide) ?_
      refine fd_iald 78 (275 : Int32) C hH (by decide) rfl rfl (by decide) dX7_meet_265 ?_
      obtain ⟨r42, e43, hf⟩ := fd_bnd hf
      refine fd_callV1 73 7 [.int x4, .int (S41 78 (63 : Int32))] C hl.1 hH (cM_dueAfter l E fu S41 x4 (S41 78 (63 : Int32)) e43) wm_X7_112 (by decide) rfl (by decide) rfl ⟨rfl, rfl, Nat.le_of_ble_eq_true rfl, Nat.le_of_ble_eq_true rfl⟩ rfl rfl (Nat.le_of_ble_eq_true rfl) ⟨Nat.le_refl _, Nat.le_refl _⟩ dX7_meet_266 (fun H locs hH => ?_)
      obtain ⟨g44, hf⟩ := fd_grd hf
      refine fd_iast 78 (275 : Int32) C hH (by decide) rfl rfl g44 dX7_meet_269 (fun H locs hH => ?_)
      obtain ⟨S45, eS45, hf⟩ := fd_ltS hf
      rw [← eS45] at hH
      refine lv_aload_n hx hb dX7_meet_270 rfl (lv_at hl 0 rfl) ?_
      refine lv_bipush (v := (33 : Int32)) hx hb dX7_meet_271 (by decide) ?_
      obtain ⟨S46, e47, hf⟩ := fd_bnd hf
      refine fd_callV0 73 7 [.int (33 : Int32)] C hl.1 hH (cM_write l E S45 (33 : Int32) e47) wm_X7_95 (by decide) rfl (by decide) rfl ⟨rfl, rfl, Nat.le_of_ble_eq_true rfl, Nat.le_of_ble_eq_true rfl⟩ rfl rfl (Nat.le_of_ble_eq_true rfl) ⟨Nat.le_refl _, Nat.le_refl _⟩ dX7_meet_273 (fun H locs hH => ?_)
      refine lv_iconst (v := (4 : Int32)) hx hb dX7_meet_276 (by decide) ?_
      cases hf
      exact fd_iret C hr hlk hH dX7_meet_277
    · have hf := fd_ifn c39 hf
      refine lv_iconst (v := (3 : Int32)) hx hb dX7_meet_232 (by decide) ?_
      cases hf
      exact fd_iret C hr hlk hH dX7_meet_233
set_option maxHeartbeats 4000000 in
set_option maxRecDepth 100000 in
theorem wM_meet_142 {p : Program} {l : Launch} {e : Env} {s : State} {m : MethodId} {args : Array Value} {below : List Frame} {meth : Method} {c : Code} {E : fd_E} (C : fd_C p s m args c yX7_meet.cls cX7_meet 6 E) (hr : meth.sig.returnType = (some .int)) (hlk : meth.locks = false) (fu : Nat) {r0 : Int32} {S0 : fd_S} : ∀ (S : fd_S) (x2 : Int32) (x3 : Int32) (x4 : Int32) (t1 : Int32) (t2 : Int32) (H : Heap) (locs : List Loc) (ls : Array Slot), zM_meet_142 fu S x2 x3 x4 t1 t2 = some (r0, S0) → fd_H E S s H locs → lv_has ls 6 [(0, .ref (E.2.2 73)), (2, .int x2), (3, .int x3), (4, .int x4)] → W p l e (fd_rm 4 93) s m args below meth c H locs 0 0 (MQ below (fd_Q E (some (.int r0)) S0) args s 0 0 (fd_A E)) (F0 m 142 ls [.int t2, .int t1, .ref (E.2.2 78)]) := by
  have hx := C.1
  have hb := C.2.1
  intro S x2 x3 x4 t1 t2 H locs ls hf hH hl
  unfold zM_meet_142 at hf
  obtain ⟨g19, hf⟩ := fd_grd hf
  refine fd_iast 78 (275 : Int32) C hH (by decide) rfl rfl g19 dX7_meet_142 (fun H locs hH => ?_)
  obtain ⟨S20, eS20, hf⟩ := fd_ltS hf
  rw [← eS20] at hH
  refine lv_aload_n hx hb dX7_meet_143 rfl (lv_at hl 0 rfl) ?_
  refine fd_get 73 7 4 C hH (by decide) rfl (by decide) (by decide) wf_X7_30 (v := .ref (E.2.2 78)) rfl dX7_meet_144 ?_
  refine lv_iload hx hb dX7_meet_147 (lv_at hl 3 rfl) ?_
  refine lv_iconst (v := (2 : Int32)) hx hb dX7_meet_149 (by decide) ?_
  refine fd_callS1 [.int x4, .int (2 : Int32)] C hl.1 hH (cM_at l E S20 x4 (2 : Int32)) wm_X7_72 ⟨rfl, rfl, Nat.le_of_ble_eq_true rfl, Nat.le_of_ble_eq_true rfl⟩ rfl rfl (Nat.le_of_ble_eq_true rfl) ⟨Nat.le_refl _, Nat.le_refl _⟩ dX7_meet_150 (fun H locs hH => ?_)
  refine lv_aload_n hx hb dX7_meet_153 rfl (lv_at hl 0 rfl) ?_
  refine fd_get 73 7 4 C hH (by decide) rfl (by decide) (by decide) wf_X7_30 (v := .ref (E.2.2 78)) rfl dX7_meet_154 ?_
  refine lv_bipush (v := (63 : Int32)) hx hb dX7_meet_157 (by decide) ?_
  refine fd_iald 78 (275 : Int32) C hH (by decide) rfl rfl (by decide) dX7_meet_159 ?_
  obtain ⟨g21, hf⟩ := fd_grd hf
  refine fd_iast 78 (275 : Int32) C hH (by decide) rfl rfl g21 dX7_meet_160 (fun H locs hH => ?_)
  obtain ⟨S22, eS22, hf⟩ := fd_ltS hf
  rw [← eS22] at hH
  refine lv_iload_n hx hb dX7_meet_161 rfl (lv_at hl 2 rfl) ?_
  refine lv_if_le (tgt := 172) hx hb dX7_meet_162 (by decide) (fun c23 => ?_) (fun c23 => ?_)
  · have hf := fd_ifp c23 hf
    exact wM_meet_172 C hr hlk fu S22 x2 x4 _ _ _ hf hH (lv_sub hl [0, 1, 3] rfl)
  · have hf := fd_ifn c23 hf
    refine lv_aload_n hx hb dX7_meet_165 rfl (lv_at hl 0 rfl) ?_
    refine lv_iload hx hb dX7_meet_166 (lv_at hl 3 rfl) ?_
    refine lv_iload_n hx hb dX7_meet_168 rfl (lv_at hl 2 rfl) ?_
    obtain ⟨S48, e49, hf⟩ := fd_bnd hf
    refine fd_callV0 73 7 [.int x4, .int x3] C hl.1 hH (cM_addCause l E fu S22 x4 x3 e49) wm_X7_105 (by decide) rfl (by decide) rfl ⟨rfl, rfl, Nat.le_of_ble_eq_true rfl, Nat.le_of_ble_eq_true rfl⟩ rfl rfl (Nat.le_of_ble_eq_true rfl) ⟨Nat.le_refl _, Nat.le_refl _⟩ dX7_meet_169 (fun H locs hH => ?_)
    exact wM_meet_172 C hr hlk fu S48 x2 x4 _ _ _ hf hH (lv_sub hl [0, 1, 3] rfl)
set_option maxHeartbeats 4000000 in
set_option maxRecDepth 100000 in
theorem wM_meet_62 {p : Program} {l : Launch} {e : Env} {s : State} {m : MethodId} {args : Array Value} {below : List Frame} {meth : Method} {c : Code} {E : fd_E} (C : fd_C p s m args c yX7_meet.cls cX7_meet 6 E) (hr : meth.sig.returnType = (some .int)) (hlk : meth.locks = false) (fu : Nat) {r0 : Int32} {S0 : fd_S} : ∀ (S : fd_S) (x1 : Int32) (x2 : Int32) (x3 : Int32) (H : Heap) (locs : List Loc) (ls : Array Slot), zM_meet_62 fu S x1 x2 x3 = some (r0, S0) → fd_H E S s H locs → lv_has ls 6 [(0, .ref (E.2.2 73)), (1, .int x1), (2, .int x2), (3, .int x3)] → W p l e (fd_rm 4 93) s m args below meth c H locs 0 0 (MQ below (fd_Q E (some (.int r0)) S0) args s 0 0 (fd_A E)) (F0 m 62 ls []) := by
  have hx := C.1
  have hb := C.2.1
  intro S x1 x2 x3 H locs ls hf hH hl
  unfold zM_meet_62 at hf
  refine lv_aload_n hx hb dX7_meet_62 rfl (lv_at hl 0 rfl) ?_
  refine lv_iload_n hx hb dX7_meet_63 rfl (lv_at hl 1 rfl) ?_
  obtain ⟨q9, e7, hf⟩ := fd_bnd hf
  obtain ⟨r8, S6⟩ := q9
  have hf := fd_prE hf
  refine fd_callV1 73 7 [.int x1] C hl.1 hH (cM_makeRecord l E fu S x1 e7) wm_X7_102 (by decide) rfl (by decide) rfl ⟨rfl, rfl, Nat.le_of_ble_eq_true rfl, Nat.le_of_ble_eq_true rfl⟩ rfl rfl (Nat.le_of_ble_eq_true rfl) ⟨Nat.le_refl _, Nat.le_refl _⟩ dX7_meet_64 (fun H locs hH => ?_)
  refine lv_istore (lv' := [(4, .int r8), (0, .ref (E.2.2 73)), (1, .int x1), (2, .int x2), (3, .int x3)]) hx hb dX7_meet_67 hl (by decide) rfl (fun ls hl => ?_)
  refine lv_iload hx hb dX7_meet_69 (lv_at hl 0 rfl) ?_
  refine lv_if_ge (tgt := 93) hx hb dX7_meet_71 (by decide) (fun c10 => ?_) (fun c10 => ?_)
  · have hf := fd_ifp c10 hf
    refine lv_aload_n hx hb dX7_meet_93 rfl (lv_at hl 1 rfl) ?_
    refine lv_iload hx hb dX7_meet_94 (lv_at hl 0 rfl) ?_
    refine lv_aload_n hx hb dX7_meet_96 rfl (lv_at hl 1 rfl) ?_
    refine fd_get 73 7 4 C hH (by decide) rfl (by decide) (by decide) wf_X7_30 (v := .ref (E.2.2 78)) rfl dX7_meet_97 ?_
    refine lv_bipush (v := (63 : Int32)) hx hb dX7_meet_100 (by decide) ?_
    refine fd_iald 78 (275 : Int32) C hH (by decide) rfl rfl (by decide) dX7_meet_102 ?_
    obtain ⟨r11, e12, hf⟩ := fd_bnd hf
    refine fd_callV1 73 7 [.int r8, .int (S6 78 (63 : Int32))] C hl.1 hH (cM_penaltyAt l E fu S6 r8 (S6 78 (63 : Int32)) e12) wm_X7_79 (by decide) rfl (by decide) rfl ⟨rfl, rfl, Nat.le_of_ble_eq_true rfl, Nat.le_of_ble_eq_true rfl⟩ rfl rfl (Nat.le_of_ble_eq_true rfl) ⟨Nat.le_refl _, Nat.le_refl _⟩ dX7_meet_103 (fun H locs hH => ?_)
    refine lv_iload_n hx hb dX7_meet_106 rfl (lv_at hl 3 rfl) ?_
    refine lv_iadd hx hb dX7_meet_107 ?_
    refine lv_topi (fun y13 ey13 => ?_)
    have hf := fd_ltN ey13 hf
    refine lv_istore (lv' := [(5, .int y13), (4, .int r8), (0, .ref (E.2.2 73)), (1, .int x1), (2, .int x2), (3, .int x3)]) hx hb dX7_meet_108 hl (by decide) rfl (fun ls hl => ?_)
    refine lv_aload_n hx hb dX7_meet_110 rfl (lv_at hl 2 rfl) ?_
    refine fd_get 73 7 4 C hH (by decide) rfl (by decide) (by decide) wf_X7_30 (v := .ref (E.2.2 78)) rfl dX7_meet_111 ?_
    refine lv_iload hx hb dX7_meet_114 (lv_at hl 1 rfl) ?_
    refine lv_iconst (v := (1 : Int32)) hx hb dX7_meet_116 (by decide) ?_
    refine fd_callS1 [.int r8, .int (1 : Int32)] C hl.1 hH (cM_at l E S6 r8 (1 : Int32)) wm_X7_72 ⟨rfl, rfl, Nat.le_of_ble_eq_true rfl, Nat.le_of_ble_eq_true rfl⟩ rfl rfl (Nat.le_of_ble_eq_true rfl) ⟨Nat.le_refl _, Nat.le_refl _⟩ dX7_meet_117 (fun H locs hH => ?_)
    refine lv_iload hx hb dX7_meet_120 (lv_at hl 0 rfl) ?_
    refine lv_aload_n hx hb dX7_meet_122 rfl (lv_at hl 2 rfl) ?_
    refine lv_bipush (v := (6 : Int32)) hx hb dX7_meet_123 (by decide) ?_
    obtain ⟨r14, e15, hf⟩ := fd_bnd hf
    refine fd_callV1 73 7 [.int (6 : Int32)] C hl.1 hH (cM_bounded l E S6 (6 : Int32) e15) wm_X7_69 (by decide) rfl (by decide) rfl ⟨rfl, rfl, Nat.le_of_ble_eq_true rfl, Nat.le_of_ble_eq_true rfl⟩ rfl rfl (Nat.le_of_ble_eq_true rfl) ⟨Nat.le_refl _, Nat.le_refl _⟩ dX7_meet_125 (fun H locs hH => ?_)
    refine lv_icmp_ge (tgt := 136) hx hb dX7_meet_128 (by decide) (fun c16 => ?_) (fun c16 => ?_)
    · have hf := fd_ifp c16 hf
      refine lv_aload_n hx hb dX7_meet_136 rfl (lv_at hl 2 rfl) ?_
      refine lv_bipush (v := (6 : Int32)) hx hb dX7_meet_137 (by decide) ?_
      obtain ⟨r17, e18, hf⟩ := fd_bnd hf
      refine fd_callV1 73 7 [.int (6 : Int32)] C hl.1 hH (cM_bounded l E S6 (6 : Int32) e18) wm_X7_69 (by decide) rfl (by decide) rfl ⟨rfl, rfl, Nat.le_of_ble_eq_true rfl, Nat.le_of_ble_eq_true rfl⟩ rfl rfl (Nat.le_of_ble_eq_true rfl) ⟨Nat.le_refl _, Nat.le_refl _⟩ dX7_meet_139 (fun H locs hH => ?_)
      exact wM_meet_142 C hr hlk fu S6 x2 x3 r8 (zM_at r8 (1 : Int32)) r17 _ _ _ hf hH (lv_sub hl [2, 4, 5, 1] rfl)
    · have hf := fd_ifn c16 hf
      refine lv_iload hx hb dX7_meet_131 (lv_at hl 0 rfl) ?_
      refine lv_goto (tgt := 142) hx hb dX7_meet_133 (by decide) ?_
      exact wM_meet_142 C hr hlk fu S6 x2 x3 r8 (zM_at r8 (1 : Int32)) y13 _ _ _ hf hH (lv_sub hl [2, 4, 5, 1] rfl)
  · have hf := fd_ifn c10 hf
    refine lv_aload_n hx hb dX7_meet_74 rfl (lv_at hl 1 rfl) ?_
    refine fd_get 73 7 4 C hH (by decide) rfl (by decide) (by decide) wf_X7_30 (v := .ref (E.2.2 78)) rfl dX7_meet_75 ?_
    refine lv_bipush (v := (67 : Int32)) hx hb dX7_meet_78 (by decide) ?_
    refine lv_dup2_11 hx hb dX7_meet_80 rfl rfl ?_
    refine fd_iald 78 (275 : Int32) C hH (by decide) rfl rfl (by decide) dX7_meet_81 ?_
    refine lv_iconst (v := (1 : Int32)) hx hb dX7_meet_82 (by decide) ?_
    refine lv_iadd hx hb dX7_meet_83 ?_
    refine fd_iast 78 (275 : Int32) C hH (by decide) rfl rfl (by decide) dX7_meet_84 (fun H locs hH => ?_)
    obtain ⟨S50, eS50, hf⟩ := fd_ltS hf
    rw [← eS50] at hH
    refine lv_aload_n hx hb dX7_meet_85 rfl (lv_at hl 1 rfl) ?_
    refine lv_bipush (v := (63 : Int32)) hx hb dX7_meet_86 (by decide) ?_
    obtain ⟨S51, e52, hf⟩ := fd_bnd hf
    refine fd_callV0 73 7 [.int (63 : Int32)] C hl.1 hH (cM_write l E S50 (63 : Int32) e52) wm_X7_95 (by decide) rfl (by decide) rfl ⟨rfl, rfl, Nat.le_of_ble_eq_true rfl, Nat.le_of_ble_eq_true rfl⟩ rfl rfl (Nat.le_of_ble_eq_true rfl) ⟨Nat.le_refl _, Nat.le_refl _⟩ dX7_meet_88 (fun H locs hH => ?_)
    refine lv_iconst (v := (2 : Int32)) hx hb dX7_meet_91 (by decide) ?_
    cases hf
    exact fd_iret C hr hlk hH dX7_meet_92
set_option maxHeartbeats 4000000 in
set_option maxRecDepth 100000 in
theorem cM_meet (l : Launch) (E : fd_E) (fu : Nat) (S : fd_S) (x1 : Int32) (x2 : Int32) (x3 : Int32) {r0 : Int32} {S0 : fd_S} (hf : zM_meet fu S x1 x2 x3 = some (r0, S0)) : fd_Ct l yX7_meet cX7_meet 6 (some .int) (fd_rm 4 93) E S [.ref (E.2.2 73), .int x1, .int x2, .int x3] (some (.int r0)) S0 := by
  unfold zM_meet at hf
  refine fd_Ct_of (by decide +kernel) (Nat.le_of_ble_eq_true rfl) ?_
  intro p e s m below meth c ls C hr hlk hH hl
  have hx := C.1
  have hb := C.2.1
  have hl : lv_has ls 6 [(0, .ref (E.2.2 73)), (1, .int x1), (2, .int x2), (3, .int x3)] := hl
  refine lv_aload_n hx hb dX7_meet_0 rfl (lv_at hl 0 rfl) ?_
  refine fd_get 73 7 4 C hH (by decide) rfl (by decide) (by decide) wf_X7_30 (v := .ref (E.2.2 78)) rfl dX7_meet_1 ?_
  refine lv_bipush (v := (65 : Int32)) hx hb dX7_meet_4 (by decide) ?_
  refine lv_dup2_11 hx hb dX7_meet_6 rfl rfl ?_
  refine fd_iald 78 (275 : Int32) C hH (by decide) rfl rfl (by decide) dX7_meet_7 ?_
  refine lv_iconst (v := (1 : Int32)) hx hb dX7_meet_8 (by decide) ?_
  refine lv_iadd hx hb dX7_meet_9 ?_
  refine fd_iast 78 (275 : Int32) C hH (by decide) rfl rfl (by decide) dX7_meet_10 (fun H locs hH => ?_)
  obtain ⟨S1, eS1, hf⟩ := fd_ltS hf
  rw [← eS1] at hH
  refine lv_aload_n hx hb dX7_meet_11 rfl (lv_at hl 0 rfl) ?_
  refine lv_iload_n hx hb dX7_meet_12 rfl (lv_at hl 1 rfl) ?_
  obtain ⟨r2, e3, hf⟩ := fd_bnd hf
  refine fd_callV1 73 7 [.int x1] C hl.1 hH (cM_recordOf l E fu S1 x1 e3) wm_X7_82 (by decide) rfl (by decide) rfl ⟨rfl, rfl, Nat.le_of_ble_eq_true rfl, Nat.le_of_ble_eq_true rfl⟩ rfl rfl (Nat.le_of_ble_eq_true rfl) ⟨Nat.le_refl _, Nat.le_refl _⟩ dX7_meet_13 (fun H locs hH => ?_)
  refine lv_istore (lv' := [(4, .int r2), (0, .ref (E.2.2 73)), (1, .int x1), (2, .int x2), (3, .int x3)]) hx hb dX7_meet_16 hl (by decide) rfl (fun ls hl => ?_)
  refine lv_iload_n hx hb dX7_meet_18 rfl (lv_at hl 3 rfl) ?_
  refine lv_if_ne (tgt := 24) hx hb dX7_meet_19 (by decide) (fun c4 => ?_) (fun c4 => ?_)
  · have hf := fd_ifn c4 hf
    refine lv_iload hx hb dX7_meet_24 (lv_at hl 0 rfl) ?_
    refine lv_if_lt (tgt := 62) hx hb dX7_meet_26 (by decide) (fun c5 => ?_) (fun c5 => ?_)
    · have hf := fd_ifp c5 hf
      exact wM_meet_62 C hr hlk fu S1 x1 x2 x3 _ _ _ hf hH (lv_sub hl [1, 2, 3, 4] rfl)
    · have hf := fd_ifn c5 hf
      refine lv_iload_n hx hb dX7_meet_29 rfl (lv_at hl 4 rfl) ?_
      refine lv_if_le (tgt := 62) hx hb dX7_meet_30 (by decide) (fun c53 => ?_) (fun c53 => ?_)
      · have hf := fd_ifp c53 hf
        exact wM_meet_62 C hr hlk fu S1 x1 x2 x3 _ _ _ hf hH (lv_sub hl [1, 2, 3, 4] rfl)
      · have hf := fd_ifn c53 hf
        refine lv_aload_n hx hb dX7_meet_33 rfl (lv_at hl 1 rfl) ?_
        refine lv_iload hx hb dX7_meet_34 (lv_at hl 0 rfl) ?_
        refine lv_iload_n hx hb dX7_meet_36 rfl (lv_at hl 4 rfl) ?_
        obtain ⟨r54, e55, hf⟩ := fd_bnd hf
        refine fd_callV1 73 7 [.int r2, .int x3] C hl.1 hH (cM_isCounted l E fu S1 r2 x3 e55) wm_X7_98 (by decide) rfl (by decide) rfl ⟨rfl, rfl, Nat.le_of_ble_eq_true rfl, Nat.le_of_ble_eq_true rfl⟩ rfl rfl (Nat.le_of_ble_eq_true rfl) ⟨Nat.le_refl _, Nat.le_refl _⟩ dX7_meet_37 (fun H locs hH => ?_)
        refine lv_if_eq (tgt := 62) hx hb dX7_meet_40 (by decide) (fun c56 => ?_) (fun c56 => ?_)
        · have hf := fd_ifp c56 hf
          exact wM_meet_62 C hr hlk fu S1 x1 x2 x3 _ _ _ hf hH (lv_sub hl [1, 2, 3, 4] rfl)
        · have hf := fd_ifn c56 hf
          refine lv_aload_n hx hb dX7_meet_43 rfl (lv_at hl 1 rfl) ?_
          refine fd_get 73 7 4 C hH (by decide) rfl (by decide) (by decide) wf_X7_30 (v := .ref (E.2.2 78)) rfl dX7_meet_44 ?_
          refine lv_bipush (v := (66 : Int32)) hx hb dX7_meet_47 (by decide) ?_
          refine lv_dup2_11 hx hb dX7_meet_49 rfl rfl ?_
          refine fd_iald 78 (275 : Int32) C hH (by decide) rfl rfl (by decide) dX7_meet_50 ?_
          refine lv_iconst (v := (1 : Int32)) hx hb dX7_meet_51 (by decide) ?_
          refine lv_iadd hx hb dX7_meet_52 ?_
          refine fd_iast 78 (275 : Int32) C hH (by decide) rfl rfl (by decide) dX7_meet_53 (fun H locs hH => ?_)
          obtain ⟨S57, eS57, hf⟩ := fd_ltS hf
          rw [← eS57] at hH
          refine lv_aload_n hx hb dX7_meet_54 rfl (lv_at hl 1 rfl) ?_
          refine lv_bipush (v := (126 : Int32)) hx hb dX7_meet_55 (by decide) ?_
          obtain ⟨S58, e59, hf⟩ := fd_bnd hf
          refine fd_callV0 73 7 [.int (126 : Int32)] C hl.1 hH (cM_write l E S57 (126 : Int32) e59) wm_X7_95 (by decide) rfl (by decide) rfl ⟨rfl, rfl, Nat.le_of_ble_eq_true rfl, Nat.le_of_ble_eq_true rfl⟩ rfl rfl (Nat.le_of_ble_eq_true rfl) ⟨Nat.le_refl _, Nat.le_refl _⟩ dX7_meet_57 (fun H locs hH => ?_)
          refine lv_iconst (v := (1 : Int32)) hx hb dX7_meet_60 (by decide) ?_
          cases hf
          exact fd_iret C hr hlk hH dX7_meet_61
  · have hf := fd_ifp c4 hf
    refine lv_iconst (v := (0 : Int32)) hx hb dX7_meet_22 (by decide) ?_
    cases hf
    exact fd_iret C hr hlk hH dX7_meet_23
theorem dX7_isRoute_0 : decode cX7_isRoute 0 = .ok (.iload_n 0, 1) := by decide +kernel
theorem dX7_isRoute_1 : decode cX7_isRoute 1 = .ok (.iconst 0, 1) := by decide +kernel
theorem dX7_isRoute_2 : decode cX7_isRoute 2 = .ok (.iconst 3, 1) := by decide +kernel
theorem dX7_isRoute_3 : decode cX7_isRoute 3 = .ok (.invokestatic 43, 3) := by decide +kernel
theorem dX7_isRoute_6 : decode cX7_isRoute 6 = .ok (.ifCond .eq 17, 3) := by decide +kernel
theorem dX7_isRoute_9 : decode cX7_isRoute 9 = .ok (.iload_n 1, 1) := by decide +kernel
theorem dX7_isRoute_10 : decode cX7_isRoute 10 = .ok (.iconst 0, 1) := by decide +kernel
theorem dX7_isRoute_11 : decode cX7_isRoute 11 = .ok (.bipush 7, 2) := by decide +kernel
theorem dX7_isRoute_13 : decode cX7_isRoute 13 = .ok (.invokestatic 43, 3) := by decide +kernel
theorem dX7_isRoute_16 : decode cX7_isRoute 16 = .ok (.ifCond .eq 7, 3) := by decide +kernel
theorem dX7_isRoute_19 : decode cX7_isRoute 19 = .ok (.iconst 1, 1) := by decide +kernel
theorem dX7_isRoute_20 : decode cX7_isRoute 20 = .ok (.goto 4, 3) := by decide +kernel
theorem dX7_isRoute_23 : decode cX7_isRoute 23 = .ok (.iconst 0, 1) := by decide +kernel
theorem dX7_isRoute_24 : decode cX7_isRoute 24 = .ok (.ireturn, 1) := by decide +kernel
set_option maxHeartbeats 4000000 in
set_option maxRecDepth 100000 in
theorem cM_isRoute (l : Launch) (E : fd_E) (S : fd_S) (x0 : Int32) (x1 : Int32) : fd_Ct l yX7_isRoute cX7_isRoute 2 (some .boolean) (fd_rm 1 22) E S [.int x0, .int x1] (some (.int (zM_isRoute x0 x1))) S := by
  generalize hf : zM_isRoute x0 x1 = r0
  unfold zM_isRoute at hf
  refine fd_Ct_of (by decide +kernel) (Nat.le_of_ble_eq_true rfl) ?_
  intro p e s m below meth c ls C hr hlk hH hl
  have hx := C.1
  have hb := C.2.1
  have hl : lv_has ls 2 [(0, .int x0), (1, .int x1)] := hl
  refine lv_iload_n hx hb dX7_isRoute_0 rfl (lv_at hl 0 rfl) ?_
  refine lv_iconst (v := (0 : Int32)) hx hb dX7_isRoute_1 (by decide) ?_
  refine lv_iconst (v := (3 : Int32)) hx hb dX7_isRoute_2 (by decide) ?_
  refine fd_callS1 [.int x0, .int (0 : Int32), .int (3 : Int32)] C hl.1 hH (cM_in l E S x0 (0 : Int32) (3 : Int32)) wm_X7_43 ⟨rfl, rfl, Nat.le_of_ble_eq_true rfl, Nat.le_of_ble_eq_true rfl⟩ rfl rfl (Nat.le_of_ble_eq_true rfl) ⟨Nat.le_refl _, Nat.le_refl _⟩ dX7_isRoute_3 (fun H locs hH => ?_)
  refine lv_if_eq (tgt := 23) hx hb dX7_isRoute_6 (by decide) (fun c1 => ?_) (fun c1 => ?_)
  · have hf := fd_ifp c1 hf
    refine lv_iconst (v := (0 : Int32)) hx hb dX7_isRoute_23 (by decide) ?_
    cases hf
    exact fd_zret .boolean C hr hlk hH rfl dX7_isRoute_24
  · have hf := fd_ifn c1 hf
    refine lv_iload_n hx hb dX7_isRoute_9 rfl (lv_at hl 1 rfl) ?_
    refine lv_iconst (v := (0 : Int32)) hx hb dX7_isRoute_10 (by decide) ?_
    refine lv_bipush (v := (7 : Int32)) hx hb dX7_isRoute_11 (by decide) ?_
    refine fd_callS1 [.int x1, .int (0 : Int32), .int (7 : Int32)] C hl.1 hH (cM_in l E S x1 (0 : Int32) (7 : Int32)) wm_X7_43 ⟨rfl, rfl, Nat.le_of_ble_eq_true rfl, Nat.le_of_ble_eq_true rfl⟩ rfl rfl (Nat.le_of_ble_eq_true rfl) ⟨Nat.le_refl _, Nat.le_refl _⟩ dX7_isRoute_13 (fun H locs hH => ?_)
    refine lv_if_eq (tgt := 23) hx hb dX7_isRoute_16 (by decide) (fun c2 => ?_) (fun c2 => ?_)
    · have hf := fd_ifp c2 hf
      refine lv_iconst (v := (0 : Int32)) hx hb dX7_isRoute_23 (by decide) ?_
      cases hf
      exact fd_zret .boolean C hr hlk hH rfl dX7_isRoute_24
    · have hf := fd_ifn c2 hf
      refine lv_iconst (v := (1 : Int32)) hx hb dX7_isRoute_19 (by decide) ?_
      refine lv_goto (tgt := 24) hx hb dX7_isRoute_20 (by decide) ?_
      cases hf
      exact fd_zret .boolean C hr hlk hH rfl dX7_isRoute_24
theorem dX7_announce_0 : decode cX7_announce 0 = .ok (.iload_n 1, 1) := by decide +kernel
theorem dX7_announce_1 : decode cX7_announce 1 = .ok (.iload_n 2, 1) := by decide +kernel
theorem dX7_announce_2 : decode cX7_announce 2 = .ok (.invokestatic 115, 3) := by decide +kernel
theorem dX7_announce_5 : decode cX7_announce 5 = .ok (.ifCond .ne 5, 3) := by decide +kernel
theorem dX7_announce_8 : decode cX7_announce 8 = .ok (.iconst (-1), 1) := by decide +kernel
theorem dX7_announce_9 : decode cX7_announce 9 = .ok (.ireturn, 1) := by decide +kernel
theorem dX7_announce_10 : decode cX7_announce 10 = .ok (.iload_n 3, 1) := by decide +kernel
theorem dX7_announce_11 : decode cX7_announce 11 = .ok (.iconst 0, 1) := by decide +kernel
theorem dX7_announce_12 : decode cX7_announce 12 = .ok (.bipush 9, 2) := by decide +kernel
theorem dX7_announce_14 : decode cX7_announce 14 = .ok (.invokestatic 43, 3) := by decide +kernel
theorem dX7_announce_17 : decode cX7_announce 17 = .ok (.ifCond .eq 14, 3) := by decide +kernel
theorem dX7_announce_20 : decode cX7_announce 20 = .ok (.iload 4, 2) := by decide +kernel
theorem dX7_announce_22 : decode cX7_announce 22 = .ok (.iconst 0, 1) := by decide +kernel
theorem dX7_announce_23 : decode cX7_announce 23 = .ok (.bipush 99, 2) := by decide +kernel
theorem dX7_announce_25 : decode cX7_announce 25 = .ok (.invokestatic 43, 3) := by decide +kernel
theorem dX7_announce_28 : decode cX7_announce 28 = .ok (.ifCond .ne 6, 3) := by decide +kernel
theorem dX7_announce_31 : decode cX7_announce 31 = .ok (.bipush (-2), 2) := by decide +kernel
theorem dX7_announce_33 : decode cX7_announce 33 = .ok (.ireturn, 1) := by decide +kernel
theorem dX7_announce_34 : decode cX7_announce 34 = .ok (.bipush 8, 2) := by decide +kernel
theorem dX7_announce_36 : decode cX7_announce 36 = .ok (.iload_n 1, 1) := by decide +kernel
theorem dX7_announce_37 : decode cX7_announce 37 = .ok (.imul, 1) := by decide +kernel
theorem dX7_announce_38 : decode cX7_announce 38 = .ok (.iload_n 2, 1) := by decide +kernel
theorem dX7_announce_39 : decode cX7_announce 39 = .ok (.iadd, 1) := by decide +kernel
theorem dX7_announce_40 : decode cX7_announce 40 = .ok (.istore 5, 2) := by decide +kernel
theorem dX7_announce_42 : decode cX7_announce 42 = .ok (.aload_n 0, 1) := by decide +kernel
theorem dX7_announce_43 : decode cX7_announce 43 = .ok (.getfield 30, 3) := by decide +kernel
theorem dX7_announce_46 : decode cX7_announce 46 = .ok (.iconst 0, 1) := by decide +kernel
theorem dX7_announce_47 : decode cX7_announce 47 = .ok (.iload 5, 2) := by decide +kernel
theorem dX7_announce_49 : decode cX7_announce 49 = .ok (.iadd, 1) := by decide +kernel
theorem dX7_announce_50 : decode cX7_announce 50 = .ok (.iaload, 1) := by decide +kernel
theorem dX7_announce_51 : decode cX7_announce 51 = .ok (.istore 6, 2) := by decide +kernel
theorem dX7_announce_53 : decode cX7_announce 53 = .ok (.iload 6, 2) := by decide +kernel
theorem dX7_announce_55 : decode cX7_announce 55 = .ok (.iload_n 3, 1) := by decide +kernel
theorem dX7_announce_56 : decode cX7_announce 56 = .ok (.if_icmp .ne 6, 3) := by decide +kernel
theorem dX7_announce_59 : decode cX7_announce 59 = .ok (.bipush (-5), 2) := by decide +kernel
theorem dX7_announce_61 : decode cX7_announce 61 = .ok (.ireturn, 1) := by decide +kernel
theorem dX7_announce_62 : decode cX7_announce 62 = .ok (.aload_n 0, 1) := by decide +kernel
theorem dX7_announce_63 : decode cX7_announce 63 = .ok (.getfield 30, 3) := by decide +kernel
theorem dX7_announce_66 : decode cX7_announce 66 = .ok (.iconst 0, 1) := by decide +kernel
theorem dX7_announce_67 : decode cX7_announce 67 = .ok (.iload 5, 2) := by decide +kernel
theorem dX7_announce_69 : decode cX7_announce 69 = .ok (.iadd, 1) := by decide +kernel
theorem dX7_announce_70 : decode cX7_announce 70 = .ok (.iload_n 3, 1) := by decide +kernel
theorem dX7_announce_71 : decode cX7_announce 71 = .ok (.iastore, 1) := by decide +kernel
theorem dX7_announce_72 : decode cX7_announce 72 = .ok (.aload_n 0, 1) := by decide +kernel
theorem dX7_announce_73 : decode cX7_announce 73 = .ok (.bipush 65, 2) := by decide +kernel
theorem dX7_announce_75 : decode cX7_announce 75 = .ok (.iload 5, 2) := by decide +kernel
theorem dX7_announce_77 : decode cX7_announce 77 = .ok (.invokevirtual 118, 3) := by decide +kernel
theorem dX7_announce_80 : decode cX7_announce 80 = .ok (.aload_n 0, 1) := by decide +kernel
theorem dX7_announce_81 : decode cX7_announce 81 = .ok (.bipush 58, 2) := by decide +kernel
theorem dX7_announce_83 : decode cX7_announce 83 = .ok (.invokevirtual 95, 3) := by decide +kernel
theorem dX7_announce_86 : decode cX7_announce 86 = .ok (.aload_n 0, 1) := by decide +kernel
theorem dX7_announce_87 : decode cX7_announce 87 = .ok (.bipush 48, 2) := by decide +kernel
theorem dX7_announce_89 : decode cX7_announce 89 = .ok (.iload_n 3, 1) := by decide +kernel
theorem dX7_announce_90 : decode cX7_announce 90 = .ok (.iadd, 1) := by decide +kernel
theorem dX7_announce_91 : decode cX7_announce 91 = .ok (.invokevirtual 95, 3) := by decide +kernel
theorem dX7_announce_94 : decode cX7_announce 94 = .ok (.aload_n 0, 1) := by decide +kernel
theorem dX7_announce_95 : decode cX7_announce 95 = .ok (.iload 5, 2) := by decide +kernel
theorem dX7_announce_97 : decode cX7_announce 97 = .ok (.iload 6, 2) := by decide +kernel
theorem dX7_announce_99 : decode cX7_announce 99 = .ok (.ifCond .ge 7, 3) := by decide +kernel
theorem dX7_announce_102 : decode cX7_announce 102 = .ok (.iconst 0, 1) := by decide +kernel
theorem dX7_announce_103 : decode cX7_announce 103 = .ok (.goto 8, 3) := by decide +kernel
theorem dX7_announce_106 : decode cX7_announce 106 = .ok (.aload_n 0, 1) := by decide +kernel
theorem dX7_announce_107 : decode cX7_announce 107 = .ok (.iconst 3, 1) := by decide +kernel
theorem dX7_announce_108 : decode cX7_announce 108 = .ok (.invokevirtual 69, 3) := by decide +kernel
theorem dX7_announce_111 : decode cX7_announce 111 = .ok (.iload 4, 2) := by decide +kernel
theorem dX7_announce_113 : decode cX7_announce 113 = .ok (.invokevirtual 121, 3) := by decide +kernel
theorem dX7_announce_116 : decode cX7_announce 116 = .ok (.istore 7, 2) := by decide +kernel
theorem dX7_announce_118 : decode cX7_announce 118 = .ok (.aload_n 0, 1) := by decide +kernel
theorem dX7_announce_119 : decode cX7_announce 119 = .ok (.invokevirtual 125, 3) := by decide +kernel
theorem dX7_announce_122 : decode cX7_announce 122 = .ok (.iload 7, 2) := by decide +kernel
theorem dX7_announce_124 : decode cX7_announce 124 = .ok (.ireturn, 1) := by decide +kernel
set_option maxHeartbeats 4000000 in
set_option maxRecDepth 100000 in
theorem cM_announce (l : Launch) (E : fd_E) (fu : Nat) (S : fd_S) (x1 : Int32) (x2 : Int32) (x3 : Int32) (x4 : Int32) {r0 : Int32} {S0 : fd_S} (hf : zM_announce fu S x1 x2 x3 x4 = some (r0, S0)) : fd_Ct l yX7_announce cX7_announce 8 (some .int) (fd_rm 5 118) E S [.ref (E.2.2 73), .int x1, .int x2, .int x3, .int x4] (some (.int r0)) S0 := by
  unfold zM_announce at hf
  refine fd_Ct_of (by decide +kernel) (Nat.le_of_ble_eq_true rfl) ?_
  intro p e s m below meth c ls C hr hlk hH hl
  have hx := C.1
  have hb := C.2.1
  have hl : lv_has ls 8 [(0, .ref (E.2.2 73)), (1, .int x1), (2, .int x2), (3, .int x3), (4, .int x4)] := hl
  refine lv_iload_n hx hb dX7_announce_0 rfl (lv_at hl 1 rfl) ?_
  refine lv_iload_n hx hb dX7_announce_1 rfl (lv_at hl 2 rfl) ?_
  refine fd_callS1 [.int x1, .int x2] C hl.1 hH (cM_isRoute l E S x1 x2) wm_X7_115 ⟨rfl, rfl, Nat.le_of_ble_eq_true rfl, Nat.le_of_ble_eq_true rfl⟩ rfl rfl (Nat.le_of_ble_eq_true rfl) ⟨Nat.le_refl _, Nat.le_refl _⟩ dX7_announce_2 (fun H locs hH => ?_)
  refine lv_if_ne (tgt := 10) hx hb dX7_announce_5 (by decide) (fun c1 => ?_) (fun c1 => ?_)
  · have hf := fd_ifn c1 hf
    refine lv_iload_n hx hb dX7_announce_10 rfl (lv_at hl 3 rfl) ?_
    refine lv_iconst (v := (0 : Int32)) hx hb dX7_announce_11 (by decide) ?_
    refine lv_bipush (v := (9 : Int32)) hx hb dX7_announce_12 (by decide) ?_
    refine fd_callS1 [.int x3, .int (0 : Int32), .int (9 : Int32)] C hl.1 hH (cM_in l E S x3 (0 : Int32) (9 : Int32)) wm_X7_43 ⟨rfl, rfl, Nat.le_of_ble_eq_true rfl, Nat.le_of_ble_eq_true rfl⟩ rfl rfl (Nat.le_of_ble_eq_true rfl) ⟨Nat.le_refl _, Nat.le_refl _⟩ dX7_announce_14 (fun H locs hH => ?_)
    refine lv_if_eq (tgt := 31) hx hb dX7_announce_17 (by decide) (fun c2 => ?_) (fun c2 => ?_)
    · have hf := fd_ifp c2 hf
      refine lv_bipush (v := (-2 : Int32)) hx hb dX7_announce_31 (by decide) ?_
      cases hf
      exact fd_iret C hr hlk hH dX7_announce_33
    · have hf := fd_ifn c2 hf
      refine lv_iload hx hb dX7_announce_20 (lv_at hl 4 rfl) ?_
      refine lv_iconst (v := (0 : Int32)) hx hb dX7_announce_22 (by decide) ?_
      refine lv_bipush (v := (99 : Int32)) hx hb dX7_announce_23 (by decide) ?_
      refine fd_callS1 [.int x4, .int (0 : Int32), .int (99 : Int32)] C hl.1 hH (cM_in l E S x4 (0 : Int32) (99 : Int32)) wm_X7_43 ⟨rfl, rfl, Nat.le_of_ble_eq_true rfl, Nat.le_of_ble_eq_true rfl⟩ rfl rfl (Nat.le_of_ble_eq_true rfl) ⟨Nat.le_refl _, Nat.le_refl _⟩ dX7_announce_25 (fun H locs hH => ?_)
      refine lv_if_ne (tgt := 34) hx hb dX7_announce_28 (by decide) (fun c3 => ?_) (fun c3 => ?_)
      · have hf := fd_ifn c3 hf
        refine lv_bipush (v := (8 : Int32)) hx hb dX7_announce_34 (by decide) ?_
        refine lv_iload_n hx hb dX7_announce_36 rfl (lv_at hl 1 rfl) ?_
        refine lv_imul hx hb dX7_announce_37 ?_
        refine lv_iload_n hx hb dX7_announce_38 rfl (lv_at hl 2 rfl) ?_
        refine lv_iadd hx hb dX7_announce_39 ?_
        refine lv_topi (fun y4 ey4 => ?_)
        have hf := fd_ltN ey4 hf
        refine lv_istore (lv' := [(5, .int y4), (0, .ref (E.2.2 73)), (1, .int x1), (2, .int x2), (3, .int x3), (4, .int x4)]) hx hb dX7_announce_40 hl (by decide) rfl (fun ls hl => ?_)
        refine lv_aload_n hx hb dX7_announce_42 rfl (lv_at hl 1 rfl) ?_
        refine fd_get 73 7 4 C hH (by decide) rfl (by decide) (by decide) wf_X7_30 (v := .ref (E.2.2 78)) rfl dX7_announce_43 ?_
        refine lv_iconst (v := (0 : Int32)) hx hb dX7_announce_46 (by decide) ?_
        refine lv_iload hx hb dX7_announce_47 (lv_at hl 0 rfl) ?_
        refine lv_iadd hx hb dX7_announce_49 ?_
        obtain ⟨g5, hf⟩ := fd_grd hf
        refine fd_iald 78 (275 : Int32) C hH (by decide) rfl rfl g5 dX7_announce_50 ?_
        refine lv_topi (fun y6 ey6 => ?_)
        have hf := fd_ltN ey6 hf
        refine lv_istore (lv' := [(6, .int y6), (5, .int y4), (0, .ref (E.2.2 73)), (1, .int x1), (2, .int x2), (3, .int x3), (4, .int x4)]) hx hb dX7_announce_51 hl (by decide) rfl (fun ls hl => ?_)
        refine lv_iload hx hb dX7_announce_53 (lv_at hl 0 rfl) ?_
        refine lv_iload_n hx hb dX7_announce_55 rfl (lv_at hl 5 rfl) ?_
        refine lv_icmp_ne (tgt := 62) hx hb dX7_announce_56 (by decide) (fun c7 => ?_) (fun c7 => ?_)
        · have hf := fd_ifn c7 hf
          refine lv_aload_n hx hb dX7_announce_62 rfl (lv_at hl 2 rfl) ?_
          refine fd_get 73 7 4 C hH (by decide) rfl (by decide) (by decide) wf_X7_30 (v := .ref (E.2.2 78)) rfl dX7_announce_63 ?_
          refine lv_iconst (v := (0 : Int32)) hx hb dX7_announce_66 (by decide) ?_
          refine lv_iload hx hb dX7_announce_67 (lv_at hl 1 rfl) ?_
          refine lv_iadd hx hb dX7_announce_69 ?_
          refine lv_iload_n hx hb dX7_announce_70 rfl (lv_at hl 5 rfl) ?_
          obtain ⟨g8, hf⟩ := fd_grd hf
          refine fd_iast 78 (275 : Int32) C hH (by decide) rfl rfl g8 dX7_announce_71 (fun H locs hH => ?_)
          obtain ⟨S9, eS9, hf⟩ := fd_ltS hf
          rw [← eS9] at hH
          refine lv_aload_n hx hb dX7_announce_72 rfl (lv_at hl 2 rfl) ?_
          refine lv_bipush (v := (65 : Int32)) hx hb dX7_announce_73 (by decide) ?_
          refine lv_iload hx hb dX7_announce_75 (lv_at hl 1 rfl) ?_
          obtain ⟨S10, e11, hf⟩ := fd_bnd hf
          refine fd_callV0 73 7 [.int (65 : Int32), .int y4] C hl.1 hH (cM_beginLine l E fu S9 (65 : Int32) y4 e11) wm_X7_118 (by decide) rfl (by decide) rfl ⟨rfl, rfl, Nat.le_of_ble_eq_true rfl, Nat.le_of_ble_eq_true rfl⟩ rfl rfl (Nat.le_of_ble_eq_true rfl) ⟨Nat.le_refl _, Nat.le_refl _⟩ dX7_announce_77 (fun H locs hH => ?_)
          refine lv_aload_n hx hb dX7_announce_80 rfl (lv_at hl 2 rfl) ?_
          refine lv_bipush (v := (58 : Int32)) hx hb dX7_announce_81 (by decide) ?_
          obtain ⟨S12, e13, hf⟩ := fd_bnd hf
          refine fd_callV0 73 7 [.int (58 : Int32)] C hl.1 hH (cM_write l E S10 (58 : Int32) e13) wm_X7_95 (by decide) rfl (by decide) rfl ⟨rfl, rfl, Nat.le_of_ble_eq_true rfl, Nat.le_of_ble_eq_true rfl⟩ rfl rfl (Nat.le_of_ble_eq_true rfl) ⟨Nat.le_refl _, Nat.le_refl _⟩ dX7_announce_83 (fun H locs hH => ?_)
          refine lv_aload_n hx hb dX7_announce_86 rfl (lv_at hl 2 rfl) ?_
          refine lv_bipush (v := (48 : Int32)) hx hb dX7_announce_87 (by decide) ?_
          refine lv_iload_n hx hb dX7_announce_89 rfl (lv_at hl 5 rfl) ?_
          refine lv_iadd hx hb dX7_announce_90 ?_
          obtain ⟨S14, e15, hf⟩ := fd_bnd hf
          refine fd_callV0 73 7 [.int ((48 : Int32) + x3)] C hl.1 hH (cM_write l E S12 ((48 : Int32) + x3) e15) wm_X7_95 (by decide) rfl (by decide) rfl ⟨rfl, rfl, Nat.le_of_ble_eq_true rfl, Nat.le_of_ble_eq_true rfl⟩ rfl rfl (Nat.le_of_ble_eq_true rfl) ⟨Nat.le_refl _, Nat.le_refl _⟩ dX7_announce_91 (fun H locs hH => ?_)
          refine lv_aload_n hx hb dX7_announce_94 rfl (lv_at hl 2 rfl) ?_
          refine lv_iload hx hb dX7_announce_95 (lv_at hl 1 rfl) ?_
          refine lv_iload hx hb dX7_announce_97 (lv_at hl 0 rfl) ?_
          refine lv_if_ge (tgt := 106) hx hb dX7_announce_99 (by decide) (fun c16 => ?_) (fun c16 => ?_)
          · have hf := fd_ifp c16 hf
            refine lv_aload_n hx hb dX7_announce_106 rfl (lv_at hl 2 rfl) ?_
            refine lv_iconst (v := (3 : Int32)) hx hb dX7_announce_107 (by decide) ?_
            obtain ⟨r17, e18, hf⟩ := fd_bnd hf
            refine fd_callV1 73 7 [.int (3 : Int32)] C hl.1 hH (cM_bounded l E S14 (3 : Int32) e18) wm_X7_69 (by decide) rfl (by decide) rfl ⟨rfl, rfl, Nat.le_of_ble_eq_true rfl, Nat.le_of_ble_eq_true rfl⟩ rfl rfl (Nat.le_of_ble_eq_true rfl) ⟨Nat.le_refl _, Nat.le_refl _⟩ dX7_announce_108 (fun H locs hH => ?_)
            refine lv_iload hx hb dX7_announce_111 (lv_at hl 6 rfl) ?_
            obtain ⟨q22, e20, hf⟩ := fd_bnd hf
            obtain ⟨r21, S19⟩ := q22
            have hf := fd_prE hf
            refine fd_callV1 73 7 [.int y4, .int r17, .int x4] C hl.1 hH (cM_meet l E fu S14 y4 r17 x4 e20) wm_X7_121 (by decide) rfl (by decide) rfl ⟨rfl, rfl, Nat.le_of_ble_eq_true rfl, Nat.le_of_ble_eq_true rfl⟩ rfl rfl (Nat.le_of_ble_eq_true rfl) ⟨Nat.le_refl _, Nat.le_refl _⟩ dX7_announce_113 (fun H locs hH => ?_)
            refine lv_istore (lv' := [(7, .int r21), (6, .int y6), (5, .int y4), (0, .ref (E.2.2 73)), (1, .int x1), (2, .int x2), (3, .int x3), (4, .int x4)]) hx hb dX7_announce_116 hl (by decide) rfl (fun ls hl => ?_)
            refine lv_aload_n hx hb dX7_announce_118 rfl (lv_at hl 3 rfl) ?_
            obtain ⟨S23, e24, hf⟩ := fd_bnd hf
            refine fd_callV0 73 7 [] C hl.1 hH (cM_lookAtBest l E fu S19 e24) wm_X7_125 (by decide) rfl (by decide) rfl ⟨rfl, rfl, Nat.le_of_ble_eq_true rfl, Nat.le_of_ble_eq_true rfl⟩ rfl rfl (Nat.le_of_ble_eq_true rfl) ⟨Nat.le_refl _, Nat.le_refl _⟩ dX7_announce_119 (fun H locs hH => ?_)
            refine lv_iload hx hb dX7_announce_122 (lv_at hl 0 rfl) ?_
            cases hf
            exact fd_iret C hr hlk hH dX7_announce_124
          · have hf := fd_ifn c16 hf
            refine lv_iconst (v := (0 : Int32)) hx hb dX7_announce_102 (by decide) ?_
            refine lv_goto (tgt := 111) hx hb dX7_announce_103 (by decide) ?_
            refine lv_iload hx hb dX7_announce_111 (lv_at hl 6 rfl) ?_
            obtain ⟨q28, e26, hf⟩ := fd_bnd hf
            obtain ⟨r27, S25⟩ := q28
            have hf := fd_prE hf
            refine fd_callV1 73 7 [.int y4, .int (0 : Int32), .int x4] C hl.1 hH (cM_meet l E fu S14 y4 (0 : Int32) x4 e26) wm_X7_121 (by decide) rfl (by decide) rfl ⟨rfl, rfl, Nat.le_of_ble_eq_true rfl, Nat.le_of_ble_eq_true rfl⟩ rfl rfl (Nat.le_of_ble_eq_true rfl) ⟨Nat.le_refl _, Nat.le_refl _⟩ dX7_announce_113 (fun H locs hH => ?_)
            refine lv_istore (lv' := [(7, .int r27), (6, .int y6), (5, .int y4), (0, .ref (E.2.2 73)), (1, .int x1), (2, .int x2), (3, .int x3), (4, .int x4)]) hx hb dX7_announce_116 hl (by decide) rfl (fun ls hl => ?_)
            refine lv_aload_n hx hb dX7_announce_118 rfl (lv_at hl 3 rfl) ?_
            obtain ⟨S29, e30, hf⟩ := fd_bnd hf
            refine fd_callV0 73 7 [] C hl.1 hH (cM_lookAtBest l E fu S25 e30) wm_X7_125 (by decide) rfl (by decide) rfl ⟨rfl, rfl, Nat.le_of_ble_eq_true rfl, Nat.le_of_ble_eq_true rfl⟩ rfl rfl (Nat.le_of_ble_eq_true rfl) ⟨Nat.le_refl _, Nat.le_refl _⟩ dX7_announce_119 (fun H locs hH => ?_)
            refine lv_iload hx hb dX7_announce_122 (lv_at hl 0 rfl) ?_
            cases hf
            exact fd_iret C hr hlk hH dX7_announce_124
        · have hf := fd_ifp c7 hf
          refine lv_bipush (v := (-5 : Int32)) hx hb dX7_announce_59 (by decide) ?_
          cases hf
          exact fd_iret C hr hlk hH dX7_announce_61
      · have hf := fd_ifp c3 hf
        refine lv_bipush (v := (-2 : Int32)) hx hb dX7_announce_31 (by decide) ?_
        cases hf
        exact fd_iret C hr hlk hH dX7_announce_33
  · have hf := fd_ifp c1 hf
    refine lv_iconst (v := (-1 : Int32)) hx hb dX7_announce_8 (by decide) ?_
    cases hf
    exact fd_iret C hr hlk hH dX7_announce_9
theorem dX7_withdraw_0 : decode cX7_withdraw 0 = .ok (.iload_n 1, 1) := by decide +kernel
theorem dX7_withdraw_1 : decode cX7_withdraw 1 = .ok (.iload_n 2, 1) := by decide +kernel
theorem dX7_withdraw_2 : decode cX7_withdraw 2 = .ok (.invokestatic 115, 3) := by decide +kernel
theorem dX7_withdraw_5 : decode cX7_withdraw 5 = .ok (.ifCond .ne 5, 3) := by decide +kernel
theorem dX7_withdraw_8 : decode cX7_withdraw 8 = .ok (.iconst (-1), 1) := by decide +kernel
theorem dX7_withdraw_9 : decode cX7_withdraw 9 = .ok (.ireturn, 1) := by decide +kernel
theorem dX7_withdraw_10 : decode cX7_withdraw 10 = .ok (.iload_n 3, 1) := by decide +kernel
theorem dX7_withdraw_11 : decode cX7_withdraw 11 = .ok (.iconst 0, 1) := by decide +kernel
theorem dX7_withdraw_12 : decode cX7_withdraw 12 = .ok (.bipush 99, 2) := by decide +kernel
theorem dX7_withdraw_14 : decode cX7_withdraw 14 = .ok (.invokestatic 43, 3) := by decide +kernel
theorem dX7_withdraw_17 : decode cX7_withdraw 17 = .ok (.ifCond .ne 6, 3) := by decide +kernel
theorem dX7_withdraw_20 : decode cX7_withdraw 20 = .ok (.bipush (-2), 2) := by decide +kernel
theorem dX7_withdraw_22 : decode cX7_withdraw 22 = .ok (.ireturn, 1) := by decide +kernel
theorem dX7_withdraw_23 : decode cX7_withdraw 23 = .ok (.bipush 8, 2) := by decide +kernel
theorem dX7_withdraw_25 : decode cX7_withdraw 25 = .ok (.iload_n 1, 1) := by decide +kernel
theorem dX7_withdraw_26 : decode cX7_withdraw 26 = .ok (.imul, 1) := by decide +kernel
theorem dX7_withdraw_27 : decode cX7_withdraw 27 = .ok (.iload_n 2, 1) := by decide +kernel
theorem dX7_withdraw_28 : decode cX7_withdraw 28 = .ok (.iadd, 1) := by decide +kernel
theorem dX7_withdraw_29 : decode cX7_withdraw 29 = .ok (.istore 4, 2) := by decide +kernel
theorem dX7_withdraw_31 : decode cX7_withdraw 31 = .ok (.aload_n 0, 1) := by decide +kernel
theorem dX7_withdraw_32 : decode cX7_withdraw 32 = .ok (.getfield 30, 3) := by decide +kernel
theorem dX7_withdraw_35 : decode cX7_withdraw 35 = .ok (.iconst 0, 1) := by decide +kernel
theorem dX7_withdraw_36 : decode cX7_withdraw 36 = .ok (.iload 4, 2) := by decide +kernel
theorem dX7_withdraw_38 : decode cX7_withdraw 38 = .ok (.iadd, 1) := by decide +kernel
theorem dX7_withdraw_39 : decode cX7_withdraw 39 = .ok (.iaload, 1) := by decide +kernel
theorem dX7_withdraw_40 : decode cX7_withdraw 40 = .ok (.ifCond .ge 6, 3) := by decide +kernel
theorem dX7_withdraw_43 : decode cX7_withdraw 43 = .ok (.bipush (-5), 2) := by decide +kernel
theorem dX7_withdraw_45 : decode cX7_withdraw 45 = .ok (.ireturn, 1) := by decide +kernel
theorem dX7_withdraw_46 : decode cX7_withdraw 46 = .ok (.aload_n 0, 1) := by decide +kernel
theorem dX7_withdraw_47 : decode cX7_withdraw 47 = .ok (.getfield 30, 3) := by decide +kernel
theorem dX7_withdraw_50 : decode cX7_withdraw 50 = .ok (.iconst 0, 1) := by decide +kernel
theorem dX7_withdraw_51 : decode cX7_withdraw 51 = .ok (.iload 4, 2) := by decide +kernel
theorem dX7_withdraw_53 : decode cX7_withdraw 53 = .ok (.iadd, 1) := by decide +kernel
theorem dX7_withdraw_54 : decode cX7_withdraw 54 = .ok (.bipush (-6), 2) := by decide +kernel
theorem dX7_withdraw_56 : decode cX7_withdraw 56 = .ok (.iastore, 1) := by decide +kernel
theorem dX7_withdraw_57 : decode cX7_withdraw 57 = .ok (.aload_n 0, 1) := by decide +kernel
theorem dX7_withdraw_58 : decode cX7_withdraw 58 = .ok (.bipush 87, 2) := by decide +kernel
theorem dX7_withdraw_60 : decode cX7_withdraw 60 = .ok (.iload 4, 2) := by decide +kernel
theorem dX7_withdraw_62 : decode cX7_withdraw 62 = .ok (.invokevirtual 118, 3) := by decide +kernel
theorem dX7_withdraw_65 : decode cX7_withdraw 65 = .ok (.aload_n 0, 1) := by decide +kernel
theorem dX7_withdraw_66 : decode cX7_withdraw 66 = .ok (.iload 4, 2) := by decide +kernel
theorem dX7_withdraw_68 : decode cX7_withdraw 68 = .ok (.aload_n 0, 1) := by decide +kernel
theorem dX7_withdraw_69 : decode cX7_withdraw 69 = .ok (.iconst 2, 1) := by decide +kernel
theorem dX7_withdraw_70 : decode cX7_withdraw 70 = .ok (.invokevirtual 69, 3) := by decide +kernel
theorem dX7_withdraw_73 : decode cX7_withdraw 73 = .ok (.iload_n 3, 1) := by decide +kernel
theorem dX7_withdraw_74 : decode cX7_withdraw 74 = .ok (.invokevirtual 121, 3) := by decide +kernel
theorem dX7_withdraw_77 : decode cX7_withdraw 77 = .ok (.istore 5, 2) := by decide +kernel
theorem dX7_withdraw_79 : decode cX7_withdraw 79 = .ok (.aload_n 0, 1) := by decide +kernel
theorem dX7_withdraw_80 : decode cX7_withdraw 80 = .ok (.invokevirtual 125, 3) := by decide +kernel
theorem dX7_withdraw_83 : decode cX7_withdraw 83 = .ok (.iload 5, 2) := by decide +kernel
theorem dX7_withdraw_85 : decode cX7_withdraw 85 = .ok (.ireturn, 1) := by decide +kernel
set_option maxHeartbeats 4000000 in
set_option maxRecDepth 100000 in
theorem cM_withdraw (l : Launch) (E : fd_E) (fu : Nat) (S : fd_S) (x1 : Int32) (x2 : Int32) (x3 : Int32) {r0 : Int32} {S0 : fd_S} (hf : zM_withdraw fu S x1 x2 x3 = some (r0, S0)) : fd_Ct l yX7_withdraw cX7_withdraw 6 (some .int) (fd_rm 5 118) E S [.ref (E.2.2 73), .int x1, .int x2, .int x3] (some (.int r0)) S0 := by
  unfold zM_withdraw at hf
  refine fd_Ct_of (by decide +kernel) (Nat.le_of_ble_eq_true rfl) ?_
  intro p e s m below meth c ls C hr hlk hH hl
  have hx := C.1
  have hb := C.2.1
  have hl : lv_has ls 6 [(0, .ref (E.2.2 73)), (1, .int x1), (2, .int x2), (3, .int x3)] := hl
  refine lv_iload_n hx hb dX7_withdraw_0 rfl (lv_at hl 1 rfl) ?_
  refine lv_iload_n hx hb dX7_withdraw_1 rfl (lv_at hl 2 rfl) ?_
  refine fd_callS1 [.int x1, .int x2] C hl.1 hH (cM_isRoute l E S x1 x2) wm_X7_115 ⟨rfl, rfl, Nat.le_of_ble_eq_true rfl, Nat.le_of_ble_eq_true rfl⟩ rfl rfl (Nat.le_of_ble_eq_true rfl) ⟨Nat.le_refl _, Nat.le_refl _⟩ dX7_withdraw_2 (fun H locs hH => ?_)
  refine lv_if_ne (tgt := 10) hx hb dX7_withdraw_5 (by decide) (fun c1 => ?_) (fun c1 => ?_)
  · have hf := fd_ifn c1 hf
    refine lv_iload_n hx hb dX7_withdraw_10 rfl (lv_at hl 3 rfl) ?_
    refine lv_iconst (v := (0 : Int32)) hx hb dX7_withdraw_11 (by decide) ?_
    refine lv_bipush (v := (99 : Int32)) hx hb dX7_withdraw_12 (by decide) ?_
    refine fd_callS1 [.int x3, .int (0 : Int32), .int (99 : Int32)] C hl.1 hH (cM_in l E S x3 (0 : Int32) (99 : Int32)) wm_X7_43 ⟨rfl, rfl, Nat.le_of_ble_eq_true rfl, Nat.le_of_ble_eq_true rfl⟩ rfl rfl (Nat.le_of_ble_eq_true rfl) ⟨Nat.le_refl _, Nat.le_refl _⟩ dX7_withdraw_14 (fun H locs hH => ?_)
    refine lv_if_ne (tgt := 23) hx hb dX7_withdraw_17 (by decide) (fun c2 => ?_) (fun c2 => ?_)
    · have hf := fd_ifn c2 hf
      refine lv_bipush (v := (8 : Int32)) hx hb dX7_withdraw_23 (by decide) ?_
      refine lv_iload_n hx hb dX7_withdraw_25 rfl (lv_at hl 1 rfl) ?_
      refine lv_imul hx hb dX7_withdraw_26 ?_
      refine lv_iload_n hx hb dX7_withdraw_27 rfl (lv_at hl 2 rfl) ?_
      refine lv_iadd hx hb dX7_withdraw_28 ?_
      refine lv_topi (fun y3 ey3 => ?_)
      have hf := fd_ltN ey3 hf
      refine lv_istore (lv' := [(4, .int y3), (0, .ref (E.2.2 73)), (1, .int x1), (2, .int x2), (3, .int x3)]) hx hb dX7_withdraw_29 hl (by decide) rfl (fun ls hl => ?_)
      refine lv_aload_n hx hb dX7_withdraw_31 rfl (lv_at hl 1 rfl) ?_
      refine fd_get 73 7 4 C hH (by decide) rfl (by decide) (by decide) wf_X7_30 (v := .ref (E.2.2 78)) rfl dX7_withdraw_32 ?_
      refine lv_iconst (v := (0 : Int32)) hx hb dX7_withdraw_35 (by decide) ?_
      refine lv_iload hx hb dX7_withdraw_36 (lv_at hl 0 rfl) ?_
      refine lv_iadd hx hb dX7_withdraw_38 ?_
      obtain ⟨g4, hf⟩ := fd_grd hf
      refine fd_iald 78 (275 : Int32) C hH (by decide) rfl rfl g4 dX7_withdraw_39 ?_
      refine lv_if_ge (tgt := 46) hx hb dX7_withdraw_40 (by decide) (fun c5 => ?_) (fun c5 => ?_)
      · have hf := fd_ifp c5 hf
        refine lv_aload_n hx hb dX7_withdraw_46 rfl (lv_at hl 1 rfl) ?_
        refine fd_get 73 7 4 C hH (by decide) rfl (by decide) (by decide) wf_X7_30 (v := .ref (E.2.2 78)) rfl dX7_withdraw_47 ?_
        refine lv_iconst (v := (0 : Int32)) hx hb dX7_withdraw_50 (by decide) ?_
        refine lv_iload hx hb dX7_withdraw_51 (lv_at hl 0 rfl) ?_
        refine lv_iadd hx hb dX7_withdraw_53 ?_
        refine lv_bipush (v := (-6 : Int32)) hx hb dX7_withdraw_54 (by decide) ?_
        obtain ⟨g6, hf⟩ := fd_grd hf
        refine fd_iast 78 (275 : Int32) C hH (by decide) rfl rfl g6 dX7_withdraw_56 (fun H locs hH => ?_)
        obtain ⟨S7, eS7, hf⟩ := fd_ltS hf
        rw [← eS7] at hH
        refine lv_aload_n hx hb dX7_withdraw_57 rfl (lv_at hl 1 rfl) ?_
        refine lv_bipush (v := (87 : Int32)) hx hb dX7_withdraw_58 (by decide) ?_
        refine lv_iload hx hb dX7_withdraw_60 (lv_at hl 0 rfl) ?_
        obtain ⟨S8, e9, hf⟩ := fd_bnd hf
        refine fd_callV0 73 7 [.int (87 : Int32), .int y3] C hl.1 hH (cM_beginLine l E fu S7 (87 : Int32) y3 e9) wm_X7_118 (by decide) rfl (by decide) rfl ⟨rfl, rfl, Nat.le_of_ble_eq_true rfl, Nat.le_of_ble_eq_true rfl⟩ rfl rfl (Nat.le_of_ble_eq_true rfl) ⟨Nat.le_refl _, Nat.le_refl _⟩ dX7_withdraw_62 (fun H locs hH => ?_)
        refine lv_aload_n hx hb dX7_withdraw_65 rfl (lv_at hl 1 rfl) ?_
        refine lv_iload hx hb dX7_withdraw_66 (lv_at hl 0 rfl) ?_
        refine lv_aload_n hx hb dX7_withdraw_68 rfl (lv_at hl 1 rfl) ?_
        refine lv_iconst (v := (2 : Int32)) hx hb dX7_withdraw_69 (by decide) ?_
        obtain ⟨r10, e11, hf⟩ := fd_bnd hf
        refine fd_callV1 73 7 [.int (2 : Int32)] C hl.1 hH (cM_bounded l E S8 (2 : Int32) e11) wm_X7_69 (by decide) rfl (by decide) rfl ⟨rfl, rfl, Nat.le_of_ble_eq_true rfl, Nat.le_of_ble_eq_true rfl⟩ rfl rfl (Nat.le_of_ble_eq_true rfl) ⟨Nat.le_refl _, Nat.le_refl _⟩ dX7_withdraw_70 (fun H locs hH => ?_)
        refine lv_iload_n hx hb dX7_withdraw_73 rfl (lv_at hl 4 rfl) ?_
        obtain ⟨q15, e13, hf⟩ := fd_bnd hf
        obtain ⟨r14, S12⟩ := q15
        have hf := fd_prE hf
        refine fd_callV1 73 7 [.int y3, .int r10, .int x3] C hl.1 hH (cM_meet l E fu S8 y3 r10 x3 e13) wm_X7_121 (by decide) rfl (by decide) rfl ⟨rfl, rfl, Nat.le_of_ble_eq_true rfl, Nat.le_of_ble_eq_true rfl⟩ rfl rfl (Nat.le_of_ble_eq_true rfl) ⟨Nat.le_refl _, Nat.le_refl _⟩ dX7_withdraw_74 (fun H locs hH => ?_)
        refine lv_istore (lv' := [(5, .int r14), (4, .int y3), (0, .ref (E.2.2 73)), (1, .int x1), (2, .int x2), (3, .int x3)]) hx hb dX7_withdraw_77 hl (by decide) rfl (fun ls hl => ?_)
        refine lv_aload_n hx hb dX7_withdraw_79 rfl (lv_at hl 2 rfl) ?_
        obtain ⟨S16, e17, hf⟩ := fd_bnd hf
        refine fd_callV0 73 7 [] C hl.1 hH (cM_lookAtBest l E fu S12 e17) wm_X7_125 (by decide) rfl (by decide) rfl ⟨rfl, rfl, Nat.le_of_ble_eq_true rfl, Nat.le_of_ble_eq_true rfl⟩ rfl rfl (Nat.le_of_ble_eq_true rfl) ⟨Nat.le_refl _, Nat.le_refl _⟩ dX7_withdraw_80 (fun H locs hH => ?_)
        refine lv_iload hx hb dX7_withdraw_83 (lv_at hl 0 rfl) ?_
        cases hf
        exact fd_iret C hr hlk hH dX7_withdraw_85
      · have hf := fd_ifn c5 hf
        refine lv_bipush (v := (-5 : Int32)) hx hb dX7_withdraw_43 (by decide) ?_
        cases hf
        exact fd_iret C hr hlk hH dX7_withdraw_45
    · have hf := fd_ifp c2 hf
      refine lv_bipush (v := (-2 : Int32)) hx hb dX7_withdraw_20 (by decide) ?_
      cases hf
      exact fd_iret C hr hlk hH dX7_withdraw_22
  · have hf := fd_ifp c1 hf
    refine lv_iconst (v := (-1 : Int32)) hx hb dX7_withdraw_8 (by decide) ?_
    cases hf
    exact fd_iret C hr hlk hH dX7_withdraw_9
