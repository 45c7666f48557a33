theorem dX11_isLetter_0 : decode cX11_isLetter 0 = .ok (.iload_n 0, 1) := by decide +kernel
theorem dX11_isLetter_1 : decode cX11_isLetter 1 = .ok (.bipush 99, 2) := by decide +kernel
theorem dX11_isLetter_3 : decode cX11_isLetter 3 = .ok (.if_icmp .eq 51, 3) := by decide +kernel
theorem dX11_isLetter_6 : decode cX11_isLetter 6 = .ok (.iload_n 0, 1) := by decide +kernel
theorem dX11_isLetter_7 : decode cX11_isLetter 7 = .ok (.bipush 108, 2) := by decide +kernel
theorem dX11_isLetter_9 : decode cX11_isLetter 9 = .ok (.if_icmp .eq 45, 3) := by decide +kernel
theorem dX11_isLetter_12 : decode cX11_isLetter 12 = .ok (.iload_n 0, 1) := by decide +kernel
theorem dX11_isLetter_13 : decode cX11_isLetter 13 = .ok (.bipush 119, 2) := by decide +kernel
theorem dX11_isLetter_15 : decode cX11_isLetter 15 = .ok (.if_icmp .eq 39, 3) := by decide +kernel
theorem dX11_isLetter_18 : decode cX11_isLetter 18 = .ok (.iload_n 0, 1) := by decide +kernel
theorem dX11_isLetter_19 : decode cX11_isLetter 19 = .ok (.bipush 103, 2) := by decide +kernel
theorem dX11_isLetter_21 : decode cX11_isLetter 21 = .ok (.if_icmp .eq 33, 3) := by decide +kernel
theorem dX11_isLetter_24 : decode cX11_isLetter 24 = .ok (.iload_n 0, 1) := by decide +kernel
theorem dX11_isLetter_25 : decode cX11_isLetter 25 = .ok (.bipush 104, 2) := by decide +kernel
theorem dX11_isLetter_27 : decode cX11_isLetter 27 = .ok (.if_icmp .eq 27, 3) := by decide +kernel
theorem dX11_isLetter_30 : decode cX11_isLetter 30 = .ok (.iload_n 0, 1) := by decide +kernel
theorem dX11_isLetter_31 : decode cX11_isLetter 31 = .ok (.bipush 97, 2) := by decide +kernel
theorem dX11_isLetter_33 : decode cX11_isLetter 33 = .ok (.if_icmp .eq 21, 3) := by decide +kernel
theorem dX11_isLetter_36 : decode cX11_isLetter 36 = .ok (.iload_n 0, 1) := by decide +kernel
theorem dX11_isLetter_37 : decode cX11_isLetter 37 = .ok (.bipush 111, 2) := by decide +kernel
theorem dX11_isLetter_39 : decode cX11_isLetter 39 = .ok (.if_icmp .eq 15, 3) := by decide +kernel
theorem dX11_isLetter_42 : decode cX11_isLetter 42 = .ok (.iload_n 0, 1) := by decide +kernel
theorem dX11_isLetter_43 : decode cX11_isLetter 43 = .ok (.bipush 102, 2) := by decide +kernel
theorem dX11_isLetter_45 : decode cX11_isLetter 45 = .ok (.if_icmp .eq 9, 3) := by decide +kernel
theorem dX11_isLetter_48 : decode cX11_isLetter 48 = .ok (.iload_n 0, 1) := by decide +kernel
theorem dX11_isLetter_49 : decode cX11_isLetter 49 = .ok (.bipush 110, 2) := by decide +kernel
theorem dX11_isLetter_51 : decode cX11_isLetter 51 = .ok (.if_icmp .ne 7, 3) := by decide +kernel
theorem dX11_isLetter_54 : decode cX11_isLetter 54 = .ok (.iconst 1, 1) := by decide +kernel
theorem dX11_isLetter_55 : decode cX11_isLetter 55 = .ok (.goto 4, 3) := by decide +kernel
theorem dX11_isLetter_58 : decode cX11_isLetter 58 = .ok (.iconst 0, 1) := by decide +kernel
theorem dX11_isLetter_59 : decode cX11_isLetter 59 = .ok (.ireturn, 1) := by decide +kernel
/-! isLetter -/
def X11_isLetter_p59 (t0 : Int32) : Option Int32 :=
    gz t0 <|
    some t0
def X11_isLetter_p54 : Option Int32 :=
    X11_isLetter_p59 (1 : Int32)
def X11_isLetter (v0 : Int32) : Option Int32 :=
    if v0 = (99 : Int32) then
      (X11_isLetter_p54 )
    else
    if v0 = (108 : Int32) then
      (X11_isLetter_p54 )
    else
    if v0 = (119 : Int32) then
      (X11_isLetter_p54 )
    else
    if v0 = (103 : Int32) then
      (X11_isLetter_p54 )
    else
    if v0 = (104 : Int32) then
      (X11_isLetter_p54 )
    else
    if v0 = (97 : Int32) then
      (X11_isLetter_p54 )
    else
    if v0 = (111 : Int32) then
      (X11_isLetter_p54 )
    else
    if v0 = (102 : Int32) then
      (X11_isLetter_p54 )
    else
    if v0 = (110 : Int32) then
      (X11_isLetter_p54 )
    else
    X11_isLetter_p59 (0 : Int32)
abbrev rmX11_isLetter : Room := { frames := 0, cells := 0, slots := 0, locals := 0 }
theorem hdX11_isLetter : yX11_isLetter.cls = RX11 ∧ yX11_isLetter.cls ≠ "java/lang/invoke/MethodHandle" ∧ yX11_isLetter.cls ≠ "java/lang/invoke/VarHandle" ∧ (parseMethodDescriptor yX11_isLetter.desc).map (fun d => d.parameters.length) = some 1 := by decide +kernel
set_option maxRecDepth 100000 in
set_option maxHeartbeats 4000000 in
theorem okX11_isLetter (l : Launch) (D : va_G) {v0 : Int32} {r : Int32} (heq : X11_isLetter v0 = some r) : gCi l D [] yX11_isLetter wsX11_isLetter rmX11_isLetter [.int v0] [] r [] := by
  refine g_body_i (by decide) rfl (Nat.le_of_ble_eq_true rfl) (fun p e s m args below meth c A Q hx hb hml hown hts hK hA hret ls hP hD hS hl => ?_)
  have hl : lv_has ls 1 [(0, .int v0)] := hl
  have b59 : ∀ (t0 : Int32) (H : Heap) (locs : List Loc) (ls : Array Slot), va_P D vwCl [] H → va_D A [] → va_S A s.heap H locs → lv_has ls 1 [] → X11_isLetter_p59  t0 = some r → W p l e rmX11_isLetter s m args below meth c H locs 0 0 Q (F0 m 59 ls [.int t0]) := by
    intro t0 H locs ls hP hD hS hl heq
    unfold X11_isLetter_p59 at heq
    obtain ⟨n_1, _, heq⟩ := gz_h heq
    have heq := Option.some.inj heq
    subst heq
    exact hret 59 H locs ls hP hD hS n_1 dX11_isLetter_59
  have b54 : ∀ (H : Heap) (locs : List Loc) (ls : Array Slot), va_P D vwCl [] H → va_D A [] → va_S A s.heap H locs → lv_has ls 1 [] → X11_isLetter_p54  = some r → W p l e rmX11_isLetter s m args below meth c H locs 0 0 Q (F0 m 54 ls []) := by
    intro H locs ls hP hD hS hl heq
    unfold X11_isLetter_p54 at heq
    refine lv_iconst (v := (1 : Int32)) hx hb dX11_isLetter_54 (by decide) ?_
    refine lv_goto (tgt := 59) hx hb dX11_isLetter_55 (by decide) ?_
    exact b59 (1 : Int32) H locs ls hP hD hS (lv_sub hl [] rfl) heq
  obtain ⟨H, hH⟩ : ∃ H, H = s.heap := ⟨_, rfl⟩
  obtain ⟨locs, hlocs⟩ : ∃ z : List Loc, z = [] := ⟨_, rfl⟩
  have hS : va_S A s.heap H locs := by rw [hH, hlocs]; exact hS
  have hP : va_P D vwCl [] H := by rw [hH]; exact hP
  suffices h9 : W p l e rmX11_isLetter s m args below meth c H locs 0 0 Q (F0 m 0 ls []) by rw [hH, hlocs] at h9; exact h9
  clear hH hlocs
  unfold X11_isLetter at heq
  refine lv_iload_n hx hb dX11_isLetter_0 rfl (lv_at hl 0 rfl) ?_
  refine lv_bipush (v := (99 : Int32)) hx hb dX11_isLetter_1 (by decide) ?_
  refine lv_icmp_eq (tgt := 54) hx hb dX11_isLetter_3 (by decide) (fun c_2 => ?_) (fun c_2 => ?_)
  · have heq := it_t c_2 heq
    exact b54  H locs ls hP hD hS (lv_sub hl [] rfl) heq
  have heq := it_f c_2 heq
  refine lv_iload_n hx hb dX11_isLetter_6 rfl (lv_at hl 0 rfl) ?_
  refine lv_bipush (v := (108 : Int32)) hx hb dX11_isLetter_7 (by decide) ?_
  refine lv_icmp_eq (tgt := 54) hx hb dX11_isLetter_9 (by decide) (fun c_3 => ?_) (fun c_3 => ?_)
  · have heq := it_t c_3 heq
    exact b54  H locs ls hP hD hS (lv_sub hl [] rfl) heq
  have heq := it_f c_3 heq
  refine lv_iload_n hx hb dX11_isLetter_12 rfl (lv_at hl 0 rfl) ?_
  refine lv_bipush (v := (119 : Int32)) hx hb dX11_isLetter_13 (by decide) ?_
  refine lv_icmp_eq (tgt := 54) hx hb dX11_isLetter_15 (by decide) (fun c_4 => ?_) (fun c_4 => ?_)
  · have heq := it_t c_4 heq
    exact b54  H locs ls hP hD hS (lv_sub hl [] rfl) heq
  have heq := it_f c_4 heq
  refine lv_iload_n hx hb dX11_isLetter_18 rfl (lv_at hl 0 rfl) ?_
  refine lv_bipush (v := (103 : Int32)) hx hb dX11_isLetter_19 (by decide) ?_
  refine lv_icmp_eq (tgt := 54) hx hb dX11_isLetter_21 (by decide) (fun c_5 => ?_) (fun c_5 => ?_)
  · have heq := it_t c_5 heq
    exact b54  H locs ls hP hD hS (lv_sub hl [] rfl) heq
  have heq := it_f c_5 heq
  refine lv_iload_n hx hb dX11_isLetter_24 rfl (lv_at hl 0 rfl) ?_
  refine lv_bipush (v := (104 : Int32)) hx hb dX11_isLetter_25 (by decide) ?_
  refine lv_icmp_eq (tgt := 54) hx hb dX11_isLetter_27 (by decide) (fun c_6 => ?_) (fun c_6 => ?_)
  · have heq := it_t c_6 heq
    exact b54  H locs ls hP hD hS (lv_sub hl [] rfl) heq
  have heq := it_f c_6 heq
  refine lv_iload_n hx hb dX11_isLetter_30 rfl (lv_at hl 0 rfl) ?_
  refine lv_bipush (v := (97 : Int32)) hx hb dX11_isLetter_31 (by decide) ?_
  refine lv_icmp_eq (tgt := 54) hx hb dX11_isLetter_33 (by decide) (fun c_7 => ?_) (fun c_7 => ?_)
  · have heq := it_t c_7 heq
    exact b54  H locs ls hP hD hS (lv_sub hl [] rfl) heq
  have heq := it_f c_7 heq
  refine lv_iload_n hx hb dX11_isLetter_36 rfl (lv_at hl 0 rfl) ?_
  refine lv_bipush (v := (111 : Int32)) hx hb dX11_isLetter_37 (by decide) ?_
  refine lv_icmp_eq (tgt := 54) hx hb dX11_isLetter_39 (by decide) (fun c_8 => ?_) (fun c_8 => ?_)
  · have heq := it_t c_8 heq
    exact b54  H locs ls hP hD hS (lv_sub hl [] rfl) heq
  have heq := it_f c_8 heq
  refine lv_iload_n hx hb dX11_isLetter_42 rfl (lv_at hl 0 rfl) ?_
  refine lv_bipush (v := (102 : Int32)) hx hb dX11_isLetter_43 (by decide) ?_
  refine lv_icmp_eq (tgt := 54) hx hb dX11_isLetter_45 (by decide) (fun c_9 => ?_) (fun c_9 => ?_)
  · have heq := it_t c_9 heq
    exact b54  H locs ls hP hD hS (lv_sub hl [] rfl) heq
  have heq := it_f c_9 heq
  refine lv_iload_n hx hb dX11_isLetter_48 rfl (lv_at hl 0 rfl) ?_
  refine lv_bipush (v := (110 : Int32)) hx hb dX11_isLetter_49 (by decide) ?_
  refine lv_icmp_ne (tgt := 58) hx hb dX11_isLetter_51 (by decide) (fun c_10 => ?_) (fun c_10 => ?_)
  · have heq := it_f c_10 heq
    refine lv_iconst (v := (0 : Int32)) hx hb dX11_isLetter_58 (by decide) ?_
    exact b59 (0 : Int32) H locs ls hP hD hS (lv_sub hl [] rfl) heq
  have heq := it_t c_10 heq
  exact b54  H locs ls hP hD hS (lv_sub hl [] rfl) heq
set_option maxRecDepth 20000 in
theorem ggX11_readNumbers_X11_readDigits : GoodIn wsX11_readNumbers wsX11_readDigits := goodIn_r _ [6, 7, 8, 9, 10, 11, 12, 13, 5, 14, 15, 16, 17, 18, 19, 20, 21, 22, 23, 24, 25, 26, 27, 28, 29, 30, 31, 32, 33, 34, 35, 36, 37, 38, 39, 40, 41, 42, 43, 44, 45, 46, 47, 48, 49, 50, 51, 52, 53, 54, 55, 56, 57] (by decide +kernel) (by decide +kernel)
set_option maxRecDepth 20000 in
theorem gX11_readNumbers_X11_readDigits : GoodIn wsX11_readNumbers (wsV RX11 145 RX11 yX11_readDigits wsX11_readDigits) := goodIn_app (goodIn_of _ (by decide +kernel)) ggX11_readNumbers_X11_readDigits
theorem dX11_readNumbers_0 : decode cX11_readNumbers 0 = .ok (.iload_n 1, 1) := by decide +kernel
theorem dX11_readNumbers_1 : decode cX11_readNumbers 1 = .ok (.tableswitch 229 97 119 #[215, 229, 107, 229, 229, 229, 174, 174, 229, 229, 229, 147, 229, 215, 188, 229, 229, 229, 229, 229, 229, 229, 147], 107) := by decide +kernel
theorem dX11_readNumbers_108 : decode cX11_readNumbers 108 = .ok (.aload_n 0, 1) := by decide +kernel
theorem dX11_readNumbers_109 : decode cX11_readNumbers 109 = .ok (.getfield 59, 3) := by decide +kernel
theorem dX11_readNumbers_112 : decode cX11_readNumbers 112 = .ok (.iload_n 2, 1) := by decide +kernel
theorem dX11_readNumbers_113 : decode cX11_readNumbers 113 = .ok (.aload_n 0, 1) := by decide +kernel
theorem dX11_readNumbers_114 : decode cX11_readNumbers 114 = .ok (.iconst 2, 1) := by decide +kernel
theorem dX11_readNumbers_115 : decode cX11_readNumbers 115 = .ok (.invokevirtual 145, 3) := by decide +kernel
theorem dX11_readNumbers_118 : decode cX11_readNumbers 118 = .ok (.iastore, 1) := by decide +kernel
theorem dX11_readNumbers_119 : decode cX11_readNumbers 119 = .ok (.aload_n 0, 1) := by decide +kernel
theorem dX11_readNumbers_120 : decode cX11_readNumbers 120 = .ok (.getfield 59, 3) := by decide +kernel
theorem dX11_readNumbers_123 : decode cX11_readNumbers 123 = .ok (.iload_n 2, 1) := by decide +kernel
theorem dX11_readNumbers_124 : decode cX11_readNumbers 124 = .ok (.iconst 1, 1) := by decide +kernel
theorem dX11_readNumbers_125 : decode cX11_readNumbers 125 = .ok (.iadd, 1) := by decide +kernel
theorem dX11_readNumbers_126 : decode cX11_readNumbers 126 = .ok (.aload_n 0, 1) := by decide +kernel
theorem dX11_readNumbers_127 : decode cX11_readNumbers 127 = .ok (.iconst 1, 1) := by decide +kernel
theorem dX11_readNumbers_128 : decode cX11_readNumbers 128 = .ok (.invokevirtual 145, 3) := by decide +kernel
theorem dX11_readNumbers_131 : decode cX11_readNumbers 131 = .ok (.iastore, 1) := by decide +kernel
theorem dX11_readNumbers_132 : decode cX11_readNumbers 132 = .ok (.aload_n 0, 1) := by decide +kernel
theorem dX11_readNumbers_133 : decode cX11_readNumbers 133 = .ok (.getfield 59, 3) := by decide +kernel
theorem dX11_readNumbers_136 : decode cX11_readNumbers 136 = .ok (.iload_n 2, 1) := by decide +kernel
theorem dX11_readNumbers_137 : decode cX11_readNumbers 137 = .ok (.iconst 2, 1) := by decide +kernel
theorem dX11_readNumbers_138 : decode cX11_readNumbers 138 = .ok (.iadd, 1) := by decide +kernel
theorem dX11_readNumbers_139 : decode cX11_readNumbers 139 = .ok (.aload_n 0, 1) := by decide +kernel
theorem dX11_readNumbers_140 : decode cX11_readNumbers 140 = .ok (.iconst 1, 1) := by decide +kernel
theorem dX11_readNumbers_141 : decode cX11_readNumbers 141 = .ok (.invokevirtual 145, 3) := by decide +kernel
theorem dX11_readNumbers_144 : decode cX11_readNumbers 144 = .ok (.iastore, 1) := by decide +kernel
theorem dX11_readNumbers_145 : decode cX11_readNumbers 145 = .ok (.goto 85, 3) := by decide +kernel
theorem dX11_readNumbers_148 : decode cX11_readNumbers 148 = .ok (.aload_n 0, 1) := by decide +kernel
theorem dX11_readNumbers_149 : decode cX11_readNumbers 149 = .ok (.getfield 59, 3) := by decide +kernel
theorem dX11_readNumbers_152 : decode cX11_readNumbers 152 = .ok (.iload_n 2, 1) := by decide +kernel
theorem dX11_readNumbers_153 : decode cX11_readNumbers 153 = .ok (.aload_n 0, 1) := by decide +kernel
theorem dX11_readNumbers_154 : decode cX11_readNumbers 154 = .ok (.iconst 2, 1) := by decide +kernel
theorem dX11_readNumbers_155 : decode cX11_readNumbers 155 = .ok (.invokevirtual 145, 3) := by decide +kernel
theorem dX11_readNumbers_158 : decode cX11_readNumbers 158 = .ok (.iastore, 1) := by decide +kernel
theorem dX11_readNumbers_159 : decode cX11_readNumbers 159 = .ok (.aload_n 0, 1) := by decide +kernel
theorem dX11_readNumbers_160 : decode cX11_readNumbers 160 = .ok (.getfield 59, 3) := by decide +kernel
theorem dX11_readNumbers_163 : decode cX11_readNumbers 163 = .ok (.iload_n 2, 1) := by decide +kernel
theorem dX11_readNumbers_164 : decode cX11_readNumbers 164 = .ok (.iconst 1, 1) := by decide +kernel
theorem dX11_readNumbers_165 : decode cX11_readNumbers 165 = .ok (.iadd, 1) := by decide +kernel
theorem dX11_readNumbers_166 : decode cX11_readNumbers 166 = .ok (.aload_n 0, 1) := by decide +kernel
theorem dX11_readNumbers_167 : decode cX11_readNumbers 167 = .ok (.iconst 2, 1) := by decide +kernel
theorem dX11_readNumbers_168 : decode cX11_readNumbers 168 = .ok (.invokevirtual 145, 3) := by decide +kernel
theorem dX11_readNumbers_171 : decode cX11_readNumbers 171 = .ok (.iastore, 1) := by decide +kernel
theorem dX11_readNumbers_172 : decode cX11_readNumbers 172 = .ok (.goto 58, 3) := by decide +kernel
theorem dX11_readNumbers_175 : decode cX11_readNumbers 175 = .ok (.aload_n 0, 1) := by decide +kernel
theorem dX11_readNumbers_176 : decode cX11_readNumbers 176 = .ok (.getfield 59, 3) := by decide +kernel
theorem dX11_readNumbers_179 : decode cX11_readNumbers 179 = .ok (.iload_n 2, 1) := by decide +kernel
theorem dX11_readNumbers_180 : decode cX11_readNumbers 180 = .ok (.aload_n 0, 1) := by decide +kernel
theorem dX11_readNumbers_181 : decode cX11_readNumbers 181 = .ok (.iconst 3, 1) := by decide +kernel
theorem dX11_readNumbers_182 : decode cX11_readNumbers 182 = .ok (.invokevirtual 145, 3) := by decide +kernel
theorem dX11_readNumbers_185 : decode cX11_readNumbers 185 = .ok (.iastore, 1) := by decide +kernel
theorem dX11_readNumbers_186 : decode cX11_readNumbers 186 = .ok (.goto 44, 3) := by decide +kernel
theorem dX11_readNumbers_189 : decode cX11_readNumbers 189 = .ok (.aload_n 0, 1) := by decide +kernel
theorem dX11_readNumbers_190 : decode cX11_readNumbers 190 = .ok (.getfield 59, 3) := by decide +kernel
theorem dX11_readNumbers_193 : decode cX11_readNumbers 193 = .ok (.iload_n 2, 1) := by decide +kernel
theorem dX11_readNumbers_194 : decode cX11_readNumbers 194 = .ok (.aload_n 0, 1) := by decide +kernel
theorem dX11_readNumbers_195 : decode cX11_readNumbers 195 = .ok (.iconst 2, 1) := by decide +kernel
theorem dX11_readNumbers_196 : decode cX11_readNumbers 196 = .ok (.invokevirtual 145, 3) := by decide +kernel
theorem dX11_readNumbers_199 : decode cX11_readNumbers 199 = .ok (.iastore, 1) := by decide +kernel
theorem dX11_readNumbers_200 : decode cX11_readNumbers 200 = .ok (.aload_n 0, 1) := by decide +kernel
theorem dX11_readNumbers_201 : decode cX11_readNumbers 201 = .ok (.getfield 59, 3) := by decide +kernel
theorem dX11_readNumbers_204 : decode cX11_readNumbers 204 = .ok (.iload_n 2, 1) := by decide +kernel
theorem dX11_readNumbers_205 : decode cX11_readNumbers 205 = .ok (.iconst 1, 1) := by decide +kernel
theorem dX11_readNumbers_206 : decode cX11_readNumbers 206 = .ok (.iadd, 1) := by decide +kernel
theorem dX11_readNumbers_207 : decode cX11_readNumbers 207 = .ok (.aload_n 0, 1) := by decide +kernel
theorem dX11_readNumbers_208 : decode cX11_readNumbers 208 = .ok (.iconst 3, 1) := by decide +kernel
theorem dX11_readNumbers_209 : decode cX11_readNumbers 209 = .ok (.invokevirtual 145, 3) := by decide +kernel
theorem dX11_readNumbers_212 : decode cX11_readNumbers 212 = .ok (.iastore, 1) := by decide +kernel
theorem dX11_readNumbers_213 : decode cX11_readNumbers 213 = .ok (.goto 17, 3) := by decide +kernel
theorem dX11_readNumbers_216 : decode cX11_readNumbers 216 = .ok (.aload_n 0, 1) := by decide +kernel
theorem dX11_readNumbers_217 : decode cX11_readNumbers 217 = .ok (.getfield 59, 3) := by decide +kernel
theorem dX11_readNumbers_220 : decode cX11_readNumbers 220 = .ok (.iload_n 2, 1) := by decide +kernel
theorem dX11_readNumbers_221 : decode cX11_readNumbers 221 = .ok (.aload_n 0, 1) := by decide +kernel
theorem dX11_readNumbers_222 : decode cX11_readNumbers 222 = .ok (.iconst 2, 1) := by decide +kernel
theorem dX11_readNumbers_223 : decode cX11_readNumbers 223 = .ok (.invokevirtual 145, 3) := by decide +kernel
theorem dX11_readNumbers_226 : decode cX11_readNumbers 226 = .ok (.iastore, 1) := by decide +kernel
theorem dX11_readNumbers_227 : decode cX11_readNumbers 227 = .ok (.goto 3, 3) := by decide +kernel
theorem dX11_readNumbers_230 : decode cX11_readNumbers 230 = .ok (.return_, 1) := by decide +kernel
/-! readNumbers -/
def X11_readNumbers_p230 (st : MS) : Option (Unit × MS) :=
    some ((), st)
def X11_readNumbers (st : MS) (v1 : Int32) (v2 : Int32) : Option (Unit × MS) :=
    if v1 = (97 : Int32) then
      (bnd (X11_readDigits st (2 : Int32)) fun y_3 st_2 =>
      inr v2 153 <|
      nm (sA st_2 25 v2.toNatClampNeg y_3) fun st_6 =>
      X11_readNumbers_p230 st_6)
    else
    if v1 = (98 : Int32) then
      (X11_readNumbers_p230 st)
    else
    if v1 = (99 : Int32) then
      (bnd (X11_readDigits st (2 : Int32)) fun y_10 st_9 =>
      inr v2 153 <|
      nm (sA st_9 25 v2.toNatClampNeg y_10) fun st_13 =>
      bnd (X11_readDigits st_13 (1 : Int32)) fun y_15 st_14 =>
      inr (v2 + (1 : Int32)) 153 <|
      nm (sA st_14 25 (v2 + (1 : Int32)).toNatClampNeg y_15) fun st_18 =>
      bnd (X11_readDigits st_18 (1 : Int32)) fun y_20 st_19 =>
      inr (v2 + (2 : Int32)) 153 <|
      nm (sA st_19 25 (v2 + (2 : Int32)).toNatClampNeg y_20) fun st_23 =>
      X11_readNumbers_p230 st_23)
    else
    if v1 = (100 : Int32) then
      (X11_readNumbers_p230 st)
    else
    if v1 = (101 : Int32) then
      (X11_readNumbers_p230 st)
    else
    if v1 = (102 : Int32) then
      (X11_readNumbers_p230 st)
    else
    if v1 = (103 : Int32) then
      (bnd (X11_readDigits st (3 : Int32)) fun y_29 st_28 =>
      inr v2 153 <|
      nm (sA st_28 25 v2.toNatClampNeg y_29) fun st_32 =>
      X11_readNumbers_p230 st_32)
    else
    if v1 = (104 : Int32) then
      (bnd (X11_readDigits st (3 : Int32)) fun y_35 st_34 =>
      inr v2 153 <|
      nm (sA st_34 25 v2.toNatClampNeg y_35) fun st_38 =>
      X11_readNumbers_p230 st_38)
    else
    if v1 = (105 : Int32) then
      (X11_readNumbers_p230 st)
    else
    if v1 = (106 : Int32) then
      (X11_readNumbers_p230 st)
    else
    if v1 = (107 : Int32) then
      (X11_readNumbers_p230 st)
    else
    if v1 = (108 : Int32) then
      (bnd (X11_readDigits st (2 : Int32)) fun y_44 st_43 =>
      inr v2 153 <|
      nm (sA st_43 25 v2.toNatClampNeg y_44) fun st_47 =>
      bnd (X11_readDigits st_47 (2 : Int32)) fun y_49 st_48 =>
      inr (v2 + (1 : Int32)) 153 <|
      nm (sA st_48 25 (v2 + (1 : Int32)).toNatClampNeg y_49) fun st_52 =>
      X11_readNumbers_p230 st_52)
    else
    if v1 = (109 : Int32) then
      (X11_readNumbers_p230 st)
    else
    if v1 = (110 : Int32) then
      (bnd (X11_readDigits st (2 : Int32)) fun y_56 st_55 =>
      inr v2 153 <|
      nm (sA st_55 25 v2.toNatClampNeg y_56) fun st_59 =>
      X11_readNumbers_p230 st_59)
    else
    if v1 = (111 : Int32) then
      (bnd (X11_readDigits st (2 : Int32)) fun y_62 st_61 =>
      inr v2 153 <|
      nm (sA st_61 25 v2.toNatClampNeg y_62) fun st_65 =>
      bnd (X11_readDigits st_65 (3 : Int32)) fun y_67 st_66 =>
      inr (v2 + (1 : Int32)) 153 <|
      nm (sA st_66 25 (v2 + (1 : Int32)).toNatClampNeg y_67) fun st_70 =>
      X11_readNumbers_p230 st_70)
    else
    if v1 = (112 : Int32) then
      (X11_readNumbers_p230 st)
    else
    if v1 = (113 : Int32) then
      (X11_readNumbers_p230 st)
    else
    if v1 = (114 : Int32) then
      (X11_readNumbers_p230 st)
    else
    if v1 = (115 : Int32) then
      (X11_readNumbers_p230 st)
    else
    if v1 = (116 : Int32) then
      (X11_readNumbers_p230 st)
    else
    if v1 = (117 : Int32) then
      (X11_readNumbers_p230 st)
    else
    if v1 = (118 : Int32) then
      (X11_readNumbers_p230 st)
    else
    if v1 = (119 : Int32) then
      (bnd (X11_readDigits st (2 : Int32)) fun y_80 st_79 =>
      inr v2 153 <|
      nm (sA st_79 25 v2.toNatClampNeg y_80) fun st_83 =>
      bnd (X11_readDigits st_83 (2 : Int32)) fun y_85 st_84 =>
      inr (v2 + (1 : Int32)) 153 <|
      nm (sA st_84 25 (v2 + (1 : Int32)).toNatClampNeg y_85) fun st_88 =>
      X11_readNumbers_p230 st_88)
    else
    X11_readNumbers_p230 st
abbrev rmX11_readNumbers : Room := { frames := 2, cells := 0, slots := 0, locals := 48 }
theorem hdX11_readNumbers : yX11_readNumbers.cls = RX11 ∧ yX11_readNumbers.cls ≠ "java/lang/invoke/MethodHandle" ∧ yX11_readNumbers.cls ≠ "java/lang/invoke/VarHandle" ∧ (parseMethodDescriptor yX11_readNumbers.desc).map (fun d => d.parameters.length) = some 2 := by decide +kernel
set_option maxRecDepth 100000 in
set_option maxHeartbeats 4000000 in
theorem okX11_readNumbers (l : Launch) (D : va_G) (a : Nat → Nat) (T : mT3) {st : MS} {v1 : Int32} {v2 : Int32} {st' : MS} (heq : X11_readNumbers st v1 v2 = some ((), st')) : gCv l D (mT T) yX11_readNumbers wsX11_readNumbers rmX11_readNumbers [.ref (a 0), .int v1, .int v2] (mW a T st) (mW a T st') := by
  refine g_body_v (by decide) rfl (Nat.le_of_ble_eq_true rfl) (fun p e s m args below meth c A Q hx hb hml hown hts hK hA _ hret ls hP hD hS hl => ?_)
  have hl : lv_has ls 3 [(0, .ref (a 0)), (1, .int v1), (2, .int v2)] := hl
  have hin : ∀ w ∈ wsX110, w ∈ wsX11_readNumbers := fun w h => List.mem_cons_of_mem _ (List.mem_append_right _ h)
  have f59 : (Cond.fieldLink RX11 59 RX11 (TX11 25).2.1 (TX11 25).2.2.1).before args s = true := hts (.fieldLink RX11 59 "LaidDownTheLaneModel" "told" "[I") (by decide +kernel)
  have b230 : ∀ (st : MS) (H : Heap) (locs : List Loc) (ls : Array Slot), va_P D vwCl (mW a T st) H → va_D A (mW a T st) → va_S A s.heap H locs → lv_has ls 3 [] → X11_readNumbers_p230  st = some ((), st') → W p l e rmX11_readNumbers s m args below meth c H locs 0 0 Q (F0 m 230 ls []) := by
    intro st H locs ls hP hD hS hl heq
    unfold X11_readNumbers_p230 at heq
    obtain ⟨-, heq2⟩ := ret_h heq
    subst heq2
    exact hret 230 H locs ls hP hD hS dX11_readNumbers_230
  obtain ⟨H, hH⟩ : ∃ H, H = s.heap := ⟨_, rfl⟩
  obtain ⟨locs, hlocs⟩ : ∃ z : List Loc, z = [] := ⟨_, rfl⟩
  have hS : va_S A s.heap H locs := by rw [hH, hlocs]; exact hS
  have hP : va_P D vwCl (mW a T st) H := by rw [hH]; exact hP
  suffices h9 : W p l e rmX11_readNumbers s m args below meth c H locs 0 0 Q (F0 m 0 ls []) by rw [hH, hlocs] at h9; exact h9
  clear hH hlocs
  unfold X11_readNumbers at heq
  refine lv_iload_n hx hb dX11_readNumbers_0 rfl (lv_at hl 1 rfl) ?_
  by_cases c_1 : v1 = (97 : Int32)
  · have heq := it_t c_1 heq
    refine lv_tableIn (tgt := 216) hx hb dX11_readNumbers_1 (by rw [c_1]; decide) (by rw [c_1]; decide) (by rw [c_1]; rfl) (by decide) ?_
    refine lv_aload_n hx hb dX11_readNumbers_216 rfl (lv_at hl 0 rfl) ?_
    refine mg (k := 25) (v := .ref (a 17)) hx hb hts hin hown hK hP (by decide) f59 rfl dX11_readNumbers_217 rfl ?_
    refine lv_iload_n hx hb dX11_readNumbers_220 rfl (lv_at hl 2 rfl) ?_
    refine lv_aload_n hx hb dX11_readNumbers_221 rfl (lv_at hl 0 rfl) ?_
    refine lv_iconst (v := (2 : Int32)) hx hb dX11_readNumbers_222 (by decide) ?_
    obtain ⟨y_3, st_2, h_4, heq⟩ := bnd_h heq
    refine g_vi (own := RX11) (As := [.int (2 : Int32)]) (rest := [.int v2, .ref (a 17)]) hx hb hml hown hts (okX11_readDigits l D a T h_4) (cwV 1 hts gX11_readNumbers_X11_readDigits rfl rfl rfl hdX11_readDigits ⟨Nat.le_of_ble_eq_true rfl, Nat.le_of_ble_eq_true rfl⟩) hK hA hP hD hS (ci := 11) (q0 := 0) rfl rfl rfl hl.1 rfl (Nat.le_of_ble_eq_true rfl) dX11_readNumbers_223 ⟨Nat.le_of_ble_eq_true rfl, Nat.le_of_ble_eq_true rfl⟩ (fun H locs hP hD hS => ?_)
    obtain ⟨n_5, heq⟩ := inr_h heq
    refine mas (k := 25) (q := 17) (n := 153) hx hb hK hP hD hS rfl (maset_25 ..) n_5 dX11_readNumbers_226 (fun H locs hP hD hS => ?_)
    obtain ⟨st_6, est_6⟩ : ∃ z, z = sA st_2 25 v2.toNatClampNeg y_3 := ⟨_, rfl⟩
    rw [← est_6] at hP hD
    have heq := nm_h est_6 heq
    refine lv_goto (tgt := 230) hx hb dX11_readNumbers_227 (by decide) ?_
    exact b230 st_6 H locs ls hP hD hS (lv_sub hl [] rfl) heq
  have heq := it_f c_1 heq
  by_cases c_7 : v1 = (98 : Int32)
  · have heq := it_t c_7 heq
    refine lv_tableIn (tgt := 230) hx hb dX11_readNumbers_1 (by rw [c_7]; decide) (by rw [c_7]; decide) (by rw [c_7]; rfl) (by decide) ?_
    exact b230 st H locs ls hP hD hS (lv_sub hl [] rfl) heq
  have heq := it_f c_7 heq
  by_cases c_8 : v1 = (99 : Int32)
  · have heq := it_t c_8 heq
    refine lv_tableIn (tgt := 108) hx hb dX11_readNumbers_1 (by rw [c_8]; decide) (by rw [c_8]; decide) (by rw [c_8]; rfl) (by decide) ?_
    refine lv_aload_n hx hb dX11_readNumbers_108 rfl (lv_at hl 0 rfl) ?_
    refine mg (k := 25) (v := .ref (a 17)) hx hb hts hin hown hK hP (by decide) f59 rfl dX11_readNumbers_109 rfl ?_
    refine lv_iload_n hx hb dX11_readNumbers_112 rfl (lv_at hl 2 rfl) ?_
    refine lv_aload_n hx hb dX11_readNumbers_113 rfl (lv_at hl 0 rfl) ?_
    refine lv_iconst (v := (2 : Int32)) hx hb dX11_readNumbers_114 (by decide) ?_
    obtain ⟨y_10, st_9, h_11, heq⟩ := bnd_h heq
    refine g_vi (own := RX11) (As := [.int (2 : Int32)]) (rest := [.int v2, .ref (a 17)]) hx hb hml hown hts (okX11_readDigits l D a T h_11) (cwV 1 hts gX11_readNumbers_X11_readDigits rfl rfl rfl hdX11_readDigits ⟨Nat.le_of_ble_eq_true rfl, Nat.le_of_ble_eq_true rfl⟩) hK hA hP hD hS (ci := 11) (q0 := 0) rfl rfl rfl hl.1 rfl (Nat.le_of_ble_eq_true rfl) dX11_readNumbers_115 ⟨Nat.le_of_ble_eq_true rfl, Nat.le_of_ble_eq_true rfl⟩ (fun H locs hP hD hS => ?_)
    obtain ⟨n_12, heq⟩ := inr_h heq
    refine mas (k := 25) (q := 17) (n := 153) hx hb hK hP hD hS rfl (maset_25 ..) n_12 dX11_readNumbers_118 (fun H locs hP hD hS => ?_)
    obtain ⟨st_13, est_13⟩ : ∃ z, z = sA st_9 25 v2.toNatClampNeg y_10 := ⟨_, rfl⟩
    rw [← est_13] at hP hD
    have heq := nm_h est_13 heq
    refine lv_aload_n hx hb dX11_readNumbers_119 rfl (lv_at hl 0 rfl) ?_
    refine mg (k := 25) (v := .ref (a 17)) hx hb hts hin hown hK hP (by decide) f59 rfl dX11_readNumbers_120 rfl ?_
    refine lv_iload_n hx hb dX11_readNumbers_123 rfl (lv_at hl 2 rfl) ?_
    refine lv_iconst (v := (1 : Int32)) hx hb dX11_readNumbers_124 (by decide) ?_
    refine lv_iadd hx hb dX11_readNumbers_125 ?_
    refine lv_aload_n hx hb dX11_readNumbers_126 rfl (lv_at hl 0 rfl) ?_
    refine lv_iconst (v := (1 : Int32)) hx hb dX11_readNumbers_127 (by decide) ?_
    obtain ⟨y_15, st_14, h_16, heq⟩ := bnd_h heq
    refine g_vi (own := RX11) (As := [.int (1 : Int32)]) (rest := [.int (v2 + (1 : Int32)), .ref (a 17)]) hx hb hml hown hts (okX11_readDigits l D a T h_16) (cwV 1 hts gX11_readNumbers_X11_readDigits rfl rfl rfl hdX11_readDigits ⟨Nat.le_of_ble_eq_true rfl, Nat.le_of_ble_eq_true rfl⟩) hK hA hP hD hS (ci := 11) (q0 := 0) rfl rfl rfl hl.1 rfl (Nat.le_of_ble_eq_true rfl) dX11_readNumbers_128 ⟨Nat.le_of_ble_eq_true rfl, Nat.le_of_ble_eq_true rfl⟩ (fun H locs hP hD hS => ?_)
    obtain ⟨n_17, heq⟩ := inr_h heq
    refine mas (k := 25) (q := 17) (n := 153) hx hb hK hP hD hS rfl (maset_25 ..) n_17 dX11_readNumbers_131 (fun H locs hP hD hS => ?_)
    obtain ⟨st_18, est_18⟩ : ∃ z, z = sA st_14 25 (v2 + (1 : Int32)).toNatClampNeg y_15 := ⟨_, rfl⟩
    rw [← est_18] at hP hD
    have heq := nm_h est_18 heq
    refine lv_aload_n hx hb dX11_readNumbers_132 rfl (lv_at hl 0 rfl) ?_
    refine mg (k := 25) (v := .ref (a 17)) hx hb hts hin hown hK hP (by decide) f59 rfl dX11_readNumbers_133 rfl ?_
    refine lv_iload_n hx hb dX11_readNumbers_136 rfl (lv_at hl 2 rfl) ?_
    refine lv_iconst (v := (2 : Int32)) hx hb dX11_readNumbers_137 (by decide) ?_
    refine lv_iadd hx hb dX11_readNumbers_138 ?_
    refine lv_aload_n hx hb dX11_readNumbers_139 rfl (lv_at hl 0 rfl) ?_
    refine lv_iconst (v := (1 : Int32)) hx hb dX11_readNumbers_140 (by decide) ?_
    obtain ⟨y_20, st_19, h_21, heq⟩ := bnd_h heq
    refine g_vi (own := RX11) (As := [.int (1 : Int32)]) (rest := [.int (v2 + (2 : Int32)), .ref (a 17)]) hx hb hml hown hts (okX11_readDigits l D a T h_21) (cwV 1 hts gX11_readNumbers_X11_readDigits rfl rfl rfl hdX11_readDigits ⟨Nat.le_of_ble_eq_true rfl, Nat.le_of_ble_eq_true rfl⟩) hK hA hP hD hS (ci := 11) (q0 := 0) rfl rfl rfl hl.1 rfl (Nat.le_of_ble_eq_true rfl) dX11_readNumbers_141 ⟨Nat.le_of_ble_eq_true rfl, Nat.le_of_ble_eq_true rfl⟩ (fun H locs hP hD hS => ?_)
    obtain ⟨n_22, heq⟩ := inr_h heq
    refine mas (k := 25) (q := 17) (n := 153) hx hb hK hP hD hS rfl (maset_25 ..) n_22 dX11_readNumbers_144 (fun H locs hP hD hS => ?_)
    obtain ⟨st_23, est_23⟩ : ∃ z, z = sA st_19 25 (v2 + (2 : Int32)).toNatClampNeg y_20 := ⟨_, rfl⟩
    rw [← est_23] at hP hD
    have heq := nm_h est_23 heq
    refine lv_goto (tgt := 230) hx hb dX11_readNumbers_145 (by decide) ?_
    exact b230 st_23 H locs ls hP hD hS (lv_sub hl [] rfl) heq
  have heq := it_f c_8 heq
  by_cases c_24 : v1 = (100 : Int32)
  · have heq := it_t c_24 heq
    refine lv_tableIn (tgt := 230) hx hb dX11_readNumbers_1 (by rw [c_24]; decide) (by rw [c_24]; decide) (by rw [c_24]; rfl) (by decide) ?_
    exact b230 st H locs ls hP hD hS (lv_sub hl [] rfl) heq
  have heq := it_f c_24 heq
  by_cases c_25 : v1 = (101 : Int32)
  · have heq := it_t c_25 heq
    refine lv_tableIn (tgt := 230) hx hb dX11_readNumbers_1 (by rw [c_25]; decide) (by rw [c_25]; decide) (by rw [c_25]; rfl) (by decide) ?_
    exact b230 st H locs ls hP hD hS (lv_sub hl [] rfl) heq
  have heq := it_f c_25 heq
  by_cases c_26 : v1 = (102 : Int32)
  · have heq := it_t c_26 heq
    refine lv_tableIn (tgt := 230) hx hb dX11_readNumbers_1 (by rw [c_26]; decide) (by rw [c_26]; decide) (by rw [c_26]; rfl) (by decide) ?_
    exact b230 st H locs ls hP hD hS (lv_sub hl [] rfl) heq
  have heq := it_f c_26 heq
  by_cases c_27 : v1 = (103 : Int32)
  · have heq := it_t c_27 heq
    refine lv_tableIn (tgt := 175) hx hb dX11_readNumbers_1 (by rw [c_27]; decide) (by rw [c_27]; decide) (by rw [c_27]; rfl) (by decide) ?_
    refine lv_aload_n hx hb dX11_readNumbers_175 rfl (lv_at hl 0 rfl) ?_
    refine mg (k := 25) (v := .ref (a 17)) hx hb hts hin hown hK hP (by decide) f59 rfl dX11_readNumbers_176 rfl ?_
    refine lv_iload_n hx hb dX11_readNumbers_179 rfl (lv_at hl 2 rfl) ?_
    refine lv_aload_n hx hb dX11_readNumbers_180 rfl (lv_at hl 0 rfl) ?_
    refine lv_iconst (v := (3 : Int32)) hx hb dX11_readNumbers_181 (by decide) ?_
    obtain ⟨y_29, st_28, h_30, heq⟩ := bnd_h heq
    refine g_vi (own := RX11) (As := [.int (3 : Int32)]) (rest := [.int v2, .ref (a 17)]) hx hb hml hown hts (okX11_readDigits l D a T h_30) (cwV 1 hts gX11_readNumbers_X11_readDigits rfl rfl rfl hdX11_readDigits ⟨Nat.le_of_ble_eq_true rfl, Nat.le_of_ble_eq_true rfl⟩) hK hA hP hD hS (ci := 11) (q0 := 0) rfl rfl rfl hl.1 rfl (Nat.le_of_ble_eq_true rfl) dX11_readNumbers_182 ⟨Nat.le_of_ble_eq_true rfl, Nat.le_of_ble_eq_true rfl⟩ (fun H locs hP hD hS => ?_)
    obtain ⟨n_31, heq⟩ := inr_h heq
    refine mas (k := 25) (q := 17) (n := 153) hx hb hK hP hD hS rfl (maset_25 ..) n_31 dX11_readNumbers_185 (fun H locs hP hD hS => ?_)
    obtain ⟨st_32, est_32⟩ : ∃ z, z = sA st_28 25 v2.toNatClampNeg y_29 := ⟨_, rfl⟩
    rw [← est_32] at hP hD
    have heq := nm_h est_32 heq
    refine lv_goto (tgt := 230) hx hb dX11_readNumbers_186 (by decide) ?_
    exact b230 st_32 H locs ls hP hD hS (lv_sub hl [] rfl) heq
  have heq := it_f c_27 heq
  by_cases c_33 : v1 = (104 : Int32)
  · have heq := it_t c_33 heq
    refine lv_tableIn (tgt := 175) hx hb dX11_readNumbers_1 (by rw [c_33]; decide) (by rw [c_33]; decide) (by rw [c_33]; rfl) (by decide) ?_
    refine lv_aload_n hx hb dX11_readNumbers_175 rfl (lv_at hl 0 rfl) ?_
    refine mg (k := 25) (v := .ref (a 17)) hx hb hts hin hown hK hP (by decide) f59 rfl dX11_readNumbers_176 rfl ?_
    refine lv_iload_n hx hb dX11_readNumbers_179 rfl (lv_at hl 2 rfl) ?_
    refine lv_aload_n hx hb dX11_readNumbers_180 rfl (lv_at hl 0 rfl) ?_
    refine lv_iconst (v := (3 : Int32)) hx hb dX11_readNumbers_181 (by decide) ?_
    obtain ⟨y_35, st_34, h_36, heq⟩ := bnd_h heq
    refine g_vi (own := RX11) (As := [.int (3 : Int32)]) (rest := [.int v2, .ref (a 17)]) hx hb hml hown hts (okX11_readDigits l D a T h_36) (cwV 1 hts gX11_readNumbers_X11_readDigits rfl rfl rfl hdX11_readDigits ⟨Nat.le_of_ble_eq_true rfl, Nat.le_of_ble_eq_true rfl⟩) hK hA hP hD hS (ci := 11) (q0 := 0) rfl rfl rfl hl.1 rfl (Nat.le_of_ble_eq_true rfl) dX11_readNumbers_182 ⟨Nat.le_of_ble_eq_true rfl, Nat.le_of_ble_eq_true rfl⟩ (fun H locs hP hD hS => ?_)
    obtain ⟨n_37, heq⟩ := inr_h heq
    refine mas (k := 25) (q := 17) (n := 153) hx hb hK hP hD hS rfl (maset_25 ..) n_37 dX11_readNumbers_185 (fun H locs hP hD hS => ?_)
    obtain ⟨st_38, est_38⟩ : ∃ z, z = sA st_34 25 v2.toNatClampNeg y_35 := ⟨_, rfl⟩
    rw [← est_38] at hP hD
    have heq := nm_h est_38 heq
    refine lv_goto (tgt := 230) hx hb dX11_readNumbers_186 (by decide) ?_
    exact b230 st_38 H locs ls hP hD hS (lv_sub hl [] rfl) heq
  have heq := it_f c_33 heq
  by_cases c_39 : v1 = (105 : Int32)
  · have heq := it_t c_39 heq
    refine lv_tableIn (tgt := 230) hx hb dX11_readNumbers_1 (by rw [c_39]; decide) (by rw [c_39]; decide) (by rw [c_39]; rfl) (by decide) ?_
    exact b230 st H locs ls hP hD hS (lv_sub hl [] rfl) heq
  have heq := it_f c_39 heq
  by_cases c_40 : v1 = (106 : Int32)
  · have heq := it_t c_40 heq
    refine lv_tableIn (tgt := 230) hx hb dX11_readNumbers_1 (by rw [c_40]; decide) (by rw [c_40]; decide) (by rw [c_40]; rfl) (by decide) ?_
    exact b230 st H locs ls hP hD hS (lv_sub hl [] rfl) heq
  have heq := it_f c_40 heq
  by_cases c_41 : v1 = (107 : Int32)
  · have heq := it_t c_41 heq
    refine lv_tableIn (tgt := 230) hx hb dX11_readNumbers_1 (by rw [c_41]; decide) (by rw [c_41]; decide) (by rw [c_41]; rfl) (by decide) ?_
    exact b230 st H locs ls hP hD hS (lv_sub hl [] rfl) heq
  have heq := it_f c_41 heq
  by_cases c_42 : v1 = (108 : Int32)
  · have heq := it_t c_42 heq
    refine lv_tableIn (tgt := 148) hx hb dX11_readNumbers_1 (by rw [c_42]; decide) (by rw [c_42]; decide) (by rw [c_42]; rfl) (by decide) ?_
    refine lv_aload_n hx hb dX11_readNumbers_148 rfl (lv_at hl 0 rfl) ?_
    refine mg (k := 25) (v := .ref (a 17)) hx hb hts hin hown hK hP (by decide) f59 rfl dX11_readNumbers_149 rfl ?_
    refine lv_iload_n hx hb dX11_readNumbers_152 rfl (lv_at hl 2 rfl) ?_
    refine lv_aload_n hx hb dX11_readNumbers_153 rfl (lv_at hl 0 rfl) ?_
    refine lv_iconst (v := (2 : Int32)) hx hb dX11_readNumbers_154 (by decide) ?_
    obtain ⟨y_44, st_43, h_45, heq⟩ := bnd_h heq
    refine g_vi (own := RX11) (As := [.int (2 : Int32)]) (rest := [.int v2, .ref (a 17)]) hx hb hml hown hts (okX11_readDigits l D a T h_45) (cwV 1 hts gX11_readNumbers_X11_readDigits rfl rfl rfl hdX11_readDigits ⟨Nat.le_of_ble_eq_true rfl, Nat.le_of_ble_eq_true rfl⟩) hK hA hP hD hS (ci := 11) (q0 := 0) rfl rfl rfl hl.1 rfl (Nat.le_of_ble_eq_true rfl) dX11_readNumbers_155 ⟨Nat.le_of_ble_eq_true rfl, Nat.le_of_ble_eq_true rfl⟩ (fun H locs hP hD hS => ?_)
    obtain ⟨n_46, heq⟩ := inr_h heq
    refine mas (k := 25) (q := 17) (n := 153) hx hb hK hP hD hS rfl (maset_25 ..) n_46 dX11_readNumbers_158 (fun H locs hP hD hS => ?_)
    obtain ⟨st_47, est_47⟩ : ∃ z, z = sA st_43 25 v2.toNatClampNeg y_44 := ⟨_, rfl⟩
    rw [← est_47] at hP hD
    have heq := nm_h est_47 heq
    refine lv_aload_n hx hb dX11_readNumbers_159 rfl (lv_at hl 0 rfl) ?_
    refine mg (k := 25) (v := .ref (a 17)) hx hb hts hin hown hK hP (by decide) f59 rfl dX11_readNumbers_160 rfl ?_
    refine lv_iload_n hx hb dX11_readNumbers_163 rfl (lv_at hl 2 rfl) ?_
    refine lv_iconst (v := (1 : Int32)) hx hb dX11_readNumbers_164 (by decide) ?_
    refine lv_iadd hx hb dX11_readNumbers_165 ?_
    refine lv_aload_n hx hb dX11_readNumbers_166 rfl (lv_at hl 0 rfl) ?_
    refine lv_iconst (v := (2 : Int32)) hx hb dX11_readNumbers_167 (by decide) ?_
    obtain ⟨y_49, st_48, h_50, heq⟩ := bnd_h heq
    refine g_vi (own := RX11) (As := [.int (2 : Int32)]) (rest := [.int (v2 + (1 : Int32)), .ref (a 17)]) hx hb hml hown hts (okX11_readDigits l D a T h_50) (cwV 1 hts gX11_readNumbers_X11_readDigits rfl rfl rfl hdX11_readDigits ⟨Nat.le_of_ble_eq_true rfl, Nat.le_of_ble_eq_true rfl⟩) hK hA hP hD hS (ci := 11) (q0 := 0) rfl rfl rfl hl.1 rfl (Nat.le_of_ble_eq_true rfl) dX11_readNumbers_168 ⟨Nat.le_of_ble_eq_true rfl, Nat.le_of_ble_eq_true rfl⟩ (fun H locs hP hD hS => ?_)
    obtain ⟨n_51, heq⟩ := inr_h heq
    refine mas (k := 25) (q := 17) (n := 153) hx hb hK hP hD hS rfl (maset_25 ..) n_51 dX11_readNumbers_171 (fun H locs hP hD hS => ?_)
    obtain ⟨st_52, est_52⟩ : ∃ z, z = sA st_48 25 (v2 + (1 : Int32)).toNatClampNeg y_49 := ⟨_, rfl⟩
    rw [← est_52] at hP hD
    have heq := nm_h est_52 heq
    refine lv_goto (tgt := 230) hx hb dX11_readNumbers_172 (by decide) ?_
    exact b230 st_52 H locs ls hP hD hS (lv_sub hl [] rfl) heq
  have heq := it_f c_42 heq
  by_cases c_53 : v1 = (109 : Int32)
  · have heq := it_t c_53 heq
    refine lv_tableIn (tgt := 230) hx hb dX11_readNumbers_1 (by rw [c_53]; decide) (by rw [c_53]; decide) (by rw [c_53]; rfl) (by decide) ?_
    exact b230 st H locs ls hP hD hS (lv_sub hl [] rfl) heq
  have heq := it_f c_53 heq
  by_cases c_54 : v1 = (110 : Int32)
  · have heq := it_t c_54 heq
    refine lv_tableIn (tgt := 216) hx hb dX11_readNumbers_1 (by rw [c_54]; decide) (by rw [c_54]; decide) (by rw [c_54]; rfl) (by decide) ?_
    refine lv_aload_n hx hb dX11_readNumbers_216 rfl (lv_at hl 0 rfl) ?_
    refine mg (k := 25) (v := .ref (a 17)) hx hb hts hin hown hK hP (by decide) f59 rfl dX11_readNumbers_217 rfl ?_
    refine lv_iload_n hx hb dX11_readNumbers_220 rfl (lv_at hl 2 rfl) ?_
    refine lv_aload_n hx hb dX11_readNumbers_221 rfl (lv_at hl 0 rfl) ?_
    refine lv_iconst (v := (2 : Int32)) hx hb dX11_readNumbers_222 (by decide) ?_
    obtain ⟨y_56, st_55, h_57, heq⟩ := bnd_h heq
    refine g_vi (own := RX11) (As := [.int (2 : Int32)]) (rest := [.int v2, .ref (a 17)]) hx hb hml hown hts (okX11_readDigits l D a T h_57) (cwV 1 hts gX11_readNumbers_X11_readDigits rfl rfl rfl hdX11_readDigits ⟨Nat.le_of_ble_eq_true rfl, Nat.le_of_ble_eq_true rfl⟩) hK hA hP hD hS (ci := 11) (q0 := 0) rfl rfl rfl hl.1 rfl (Nat.le_of_ble_eq_true rfl) dX11_readNumbers_223 ⟨Nat.le_of_ble_eq_true rfl, Nat.le_of_ble_eq_true rfl⟩ (fun H locs hP hD hS => ?_)
    obtain ⟨n_58, heq⟩ := inr_h heq
    refine mas (k := 25) (q := 17) (n := 153) hx hb hK hP hD hS rfl (maset_25 ..) n_58 dX11_readNumbers_226 (fun H locs hP hD hS => ?_)
    obtain ⟨st_59, est_59⟩ : ∃ z, z = sA st_55 25 v2.toNatClampNeg y_56 := ⟨_, rfl⟩
    rw [← est_59] at hP hD
    have heq := nm_h est_59 heq
    refine lv_goto (tgt := 230) hx hb dX11_readNumbers_227 (by decide) ?_
    exact b230 st_59 H locs ls hP hD hS (lv_sub hl [] rfl) heq
  have heq := it_f c_54 heq
  by_cases c_60 : v1 = (111 : Int32)
  · have heq := it_t c_60 heq
    refine lv_tableIn (tgt := 189) hx hb dX11_readNumbers_1 (by rw [c_60]; decide) (by rw [c_60]; decide) (by rw [c_60]; rfl) (by decide) ?_
    refine lv_aload_n hx hb dX11_readNumbers_189 rfl (lv_at hl 0 rfl) ?_
    refine mg (k := 25) (v := .ref (a 17)) hx hb hts hin hown hK hP (by decide) f59 rfl dX11_readNumbers_190 rfl ?_
    refine lv_iload_n hx hb dX11_readNumbers_193 rfl (lv_at hl 2 rfl) ?_
    refine lv_aload_n hx hb dX11_readNumbers_194 rfl (lv_at hl 0 rfl) ?_
    refine lv_iconst (v := (2 : Int32)) hx hb dX11_readNumbers_195 (by decide) ?_
    obtain ⟨y_62, st_61, h_63, heq⟩ := bnd_h heq
    refine g_vi (own := RX11) (As := [.int (2 : Int32)]) (rest := [.int v2, .ref (a 17)]) hx hb hml hown hts (okX11_readDigits l D a T h_63) (cwV 1 hts gX11_readNumbers_X11_readDigits rfl rfl rfl hdX11_readDigits ⟨Nat.le_of_ble_eq_true rfl, Nat.le_of_ble_eq_true rfl⟩) hK hA hP hD hS (ci := 11) (q0 := 0) rfl rfl rfl hl.1 rfl (Nat.le_of_ble_eq_true rfl) dX11_readNumbers_196 ⟨Nat.le_of_ble_eq_true rfl, Nat.le_of_ble_eq_true rfl⟩ (fun H locs hP hD hS => ?_)
    obtain ⟨n_64, heq⟩ := inr_h heq
    refine mas (k := 25) (q := 17) (n := 153) hx hb hK hP hD hS rfl (maset_25 ..) n_64 dX11_readNumbers_199 (fun H locs hP hD hS => ?_)
    obtain ⟨st_65, est_65⟩ : ∃ z, z = sA st_61 25 v2.toNatClampNeg y_62 := ⟨_, rfl⟩
    rw [← est_65] at hP hD
    have heq := nm_h est_65 heq
    refine lv_aload_n hx hb dX11_readNumbers_200 rfl (lv_at hl 0 rfl) ?_
    refine mg (k := 25) (v := .ref (a 17)) hx hb hts hin hown hK hP (by decide) f59 rfl dX11_readNumbers_201 rfl ?_
    refine lv_iload_n hx hb dX11_readNumbers_204 rfl (lv_at hl 2 rfl) ?_
    refine lv_iconst (v := (1 : Int32)) hx hb dX11_readNumbers_205 (by decide) ?_
    refine lv_iadd hx hb dX11_readNumbers_206 ?_
    refine lv_aload_n hx hb dX11_readNumbers_207 rfl (lv_at hl 0 rfl) ?_
    refine lv_iconst (v := (3 : Int32)) hx hb dX11_readNumbers_208 (by decide) ?_
    obtain ⟨y_67, st_66, h_68, heq⟩ := bnd_h heq
    refine g_vi (own := RX11) (As := [.int (3 : Int32)]) (rest := [.int (v2 + (1 : Int32)), .ref (a 17)]) hx hb hml hown hts (okX11_readDigits l D a T h_68) (cwV 1 hts gX11_readNumbers_X11_readDigits rfl rfl rfl hdX11_readDigits ⟨Nat.le_of_ble_eq_true rfl, Nat.le_of_ble_eq_true rfl⟩) hK hA hP hD hS (ci := 11) (q0 := 0) rfl rfl rfl hl.1 rfl (Nat.le_of_ble_eq_true rfl) dX11_readNumbers_209 ⟨Nat.le_of_ble_eq_true rfl, Nat.le_of_ble_eq_true rfl⟩ (fun H locs hP hD hS => ?_)
    obtain ⟨n_69, heq⟩ := inr_h heq
    refine mas (k := 25) (q := 17) (n := 153) hx hb hK hP hD hS rfl (maset_25 ..) n_69 dX11_readNumbers_212 (fun H locs hP hD hS => ?_)
    obtain ⟨st_70, est_70⟩ : ∃ z, z = sA st_66 25 (v2 + (1 : Int32)).toNatClampNeg y_67 := ⟨_, rfl⟩
    rw [← est_70] at hP hD
    have heq := nm_h est_70 heq
    refine lv_goto (tgt := 230) hx hb dX11_readNumbers_213 (by decide) ?_
    exact b230 st_70 H locs ls hP hD hS (lv_sub hl [] rfl) heq
  have heq := it_f c_60 heq
  by_cases c_71 : v1 = (112 : Int32)
  · have heq := it_t c_71 heq
    refine lv_tableIn (tgt := 230) hx hb dX11_readNumbers_1 (by rw [c_71]; decide) (by rw [c_71]; decide) (by rw [c_71]; rfl) (by decide) ?_
    exact b230 st H locs ls hP hD hS (lv_sub hl [] rfl) heq
  have heq := it_f c_71 heq
  by_cases c_72 : v1 = (113 : Int32)
  · have heq := it_t c_72 heq
    refine lv_tableIn (tgt := 230) hx hb dX11_readNumbers_1 (by rw [c_72]; decide) (by rw [c_72]; decide) (by rw [c_72]; rfl) (by decide) ?_
    exact b230 st H locs ls hP hD hS (lv_sub hl [] rfl) heq
  have heq := it_f c_72 heq
  by_cases c_73 : v1 = (114 : Int32)
  · have heq := it_t c_73 heq
    refine lv_tableIn (tgt := 230) hx hb dX11_readNumbers_1 (by rw [c_73]; decide) (by rw [c_73]; decide) (by rw [c_73]; rfl) (by decide) ?_
    exact b230 st H locs ls hP hD hS (lv_sub hl [] rfl) heq
  have heq := it_f c_73 heq
  by_cases c_74 : v1 = (115 : Int32)
  · have heq := it_t c_74 heq
    refine lv_tableIn (tgt := 230) hx hb dX11_readNumbers_1 (by rw [c_74]; decide) (by rw [c_74]; decide) (by rw [c_74]; rfl) (by decide) ?_
    exact b230 st H locs ls hP hD hS (lv_sub hl [] rfl) heq
  have heq := it_f c_74 heq
  by_cases c_75 : v1 = (116 : Int32)
  · have heq := it_t c_75 heq
    refine lv_tableIn (tgt := 230) hx hb dX11_readNumbers_1 (by rw [c_75]; decide) (by rw [c_75]; decide) (by rw [c_75]; rfl) (by decide) ?_
    exact b230 st H locs ls hP hD hS (lv_sub hl [] rfl) heq
  have heq := it_f c_75 heq
  by_cases c_76 : v1 = (117 : Int32)
  · have heq := it_t c_76 heq
    refine lv_tableIn (tgt := 230) hx hb dX11_readNumbers_1 (by rw [c_76]; decide) (by rw [c_76]; decide) (by rw [c_76]; rfl) (by decide) ?_
    exact b230 st H locs ls hP hD hS (lv_sub hl [] rfl) heq
  have heq := it_f c_76 heq
  by_cases c_77 : v1 = (118 : Int32)
  · have heq := it_t c_77 heq
    refine lv_tableIn (tgt := 230) hx hb dX11_readNumbers_1 (by rw [c_77]; decide) (by rw [c_77]; decide) (by rw [c_77]; rfl) (by decide) ?_
    exact b230 st H locs ls hP hD hS (lv_sub hl [] rfl) heq
  have heq := it_f c_77 heq
  by_cases c_78 : v1 = (119 : Int32)
  · have heq := it_t c_78 heq
    refine lv_tableIn (tgt := 148) hx hb dX11_readNumbers_1 (by rw [c_78]; decide) (by rw [c_78]; decide) (by rw [c_78]; rfl) (by decide) ?_
    refine lv_aload_n hx hb dX11_readNumbers_148 rfl (lv_at hl 0 rfl) ?_
    refine mg (k := 25) (v := .ref (a 17)) hx hb hts hin hown hK hP (by decide) f59 rfl dX11_readNumbers_149 rfl ?_
    refine lv_iload_n hx hb dX11_readNumbers_152 rfl (lv_at hl 2 rfl) ?_
    refine lv_aload_n hx hb dX11_readNumbers_153 rfl (lv_at hl 0 rfl) ?_
    refine lv_iconst (v := (2 : Int32)) hx hb dX11_readNumbers_154 (by decide) ?_
    obtain ⟨y_80, st_79, h_81, heq⟩ := bnd_h heq
    refine g_vi (own := RX11) (As := [.int (2 : Int32)]) (rest := [.int v2, .ref (a 17)]) hx hb hml hown hts (okX11_readDigits l D a T h_81) (cwV 1 hts gX11_readNumbers_X11_readDigits rfl rfl rfl hdX11_readDigits ⟨Nat.le_of_ble_eq_true rfl, Nat.le_of_ble_eq_true rfl⟩) hK hA hP hD hS (ci := 11) (q0 := 0) rfl rfl rfl hl.1 rfl (Nat.le_of_ble_eq_true rfl) dX11_readNumbers_155 ⟨Nat.le_of_ble_eq_true rfl, Nat.le_of_ble_eq_true rfl⟩ (fun H locs hP hD hS => ?_)
    obtain ⟨n_82, heq⟩ := inr_h heq
    refine mas (k := 25) (q := 17) (n := 153) hx hb hK hP hD hS rfl (maset_25 ..) n_82 dX11_readNumbers_158 (fun H locs hP hD hS => ?_)
    obtain ⟨st_83, est_83⟩ : ∃ z, z = sA st_79 25 v2.toNatClampNeg y_80 := ⟨_, rfl⟩
    rw [← est_83] at hP hD
    have heq := nm_h est_83 heq
    refine lv_aload_n hx hb dX11_readNumbers_159 rfl (lv_at hl 0 rfl) ?_
    refine mg (k := 25) (v := .ref (a 17)) hx hb hts hin hown hK hP (by decide) f59 rfl dX11_readNumbers_160 rfl ?_
    refine lv_iload_n hx hb dX11_readNumbers_163 rfl (lv_at hl 2 rfl) ?_
    refine lv_iconst (v := (1 : Int32)) hx hb dX11_readNumbers_164 (by decide) ?_
    refine lv_iadd hx hb dX11_readNumbers_165 ?_
    refine lv_aload_n hx hb dX11_readNumbers_166 rfl (lv_at hl 0 rfl) ?_
    refine lv_iconst (v := (2 : Int32)) hx hb dX11_readNumbers_167 (by decide) ?_
    obtain ⟨y_85, st_84, h_86, heq⟩ := bnd_h heq
    refine g_vi (own := RX11) (As := [.int (2 : Int32)]) (rest := [.int (v2 + (1 : Int32)), .ref (a 17)]) hx hb hml hown hts (okX11_readDigits l D a T h_86) (cwV 1 hts gX11_readNumbers_X11_readDigits rfl rfl rfl hdX11_readDigits ⟨Nat.le_of_ble_eq_true rfl, Nat.le_of_ble_eq_true rfl⟩) hK hA hP hD hS (ci := 11) (q0 := 0) rfl rfl rfl hl.1 rfl (Nat.le_of_ble_eq_true rfl) dX11_readNumbers_168 ⟨Nat.le_of_ble_eq_true rfl, Nat.le_of_ble_eq_true rfl⟩ (fun H locs hP hD hS => ?_)
    obtain ⟨n_87, heq⟩ := inr_h heq
    refine mas (k := 25) (q := 17) (n := 153) hx hb hK hP hD hS rfl (maset_25 ..) n_87 dX11_readNumbers_171 (fun H locs hP hD hS => ?_)
    obtain ⟨st_88, est_88⟩ : ∃ z, z = sA st_84 25 (v2 + (1 : Int32)).toNatClampNeg y_85 := ⟨_, rfl⟩
    rw [← est_88] at hP hD
    have heq := nm_h est_88 heq
    refine lv_goto (tgt := 230) hx hb dX11_readNumbers_172 (by decide) ?_
    exact b230 st_88 H locs ls hP hD hS (lv_sub hl [] rfl) heq
  have heq := it_f c_78 heq
  refine lv_tableOut (tgt := 230) hx hb dX11_readNumbers_1 (sw_out fun k h1 h2 => ?_) (by decide) ?_
  · rcases (show k = 97 ∨ k = 98 ∨ k = 99 ∨ k = 100 ∨ k = 101 ∨ k = 102 ∨ k = 103 ∨ k = 104 ∨ k = 105 ∨ k = 106 ∨ k = 107 ∨ k = 108 ∨ k = 109 ∨ k = 110 ∨ k = 111 ∨ k = 112 ∨ k = 113 ∨ k = 114 ∨ k = 115 ∨ k = 116 ∨ k = 117 ∨ k = 118 ∨ k = 119 by omega) with rfl | rfl | rfl | rfl | rfl | rfl | rfl | rfl | rfl | rfl | rfl | rfl | rfl | rfl | rfl | rfl | rfl | rfl | rfl | rfl | rfl | rfl | rfl
    · exact c_1
    · exact c_7
    · exact c_8
    · exact c_24
    · exact c_25
    · exact c_26
    · exact c_27
    · exact c_33
    · exact c_39
    · exact c_40
    · exact c_41
    · exact c_42
    · exact c_53
    · exact c_54
    · exact c_60
    · exact c_71
    · exact c_72
    · exact c_73
    · exact c_74
    · exact c_75
    · exact c_76
    · exact c_77
    · exact c_78
  exact b230 st H locs ls hP hD hS (lv_sub hl [] rfl) heq
set_option maxRecDepth 20000 in
theorem ggX11_readStatement_X11_here : GoodIn wsX11_readStatement wsX11_here := goodIn_r _ [10, 3, 11, 12, 13, 31, 32, 33, 34, 35, 36, 37, 38, 39, 40, 41, 42, 43, 44, 45, 46, 47, 48, 49, 50, 51, 52, 53, 54, 55, 56, 57, 58, 59, 60, 61, 62, 63, 64, 65, 66, 67] (by decide +kernel) (by decide +kernel)
set_option maxRecDepth 20000 in
theorem gX11_readStatement_X11_here : GoodIn wsX11_readStatement (wsV RX11 138 RX11 yX11_here wsX11_here) := goodIn_app (goodIn_of _ (by decide +kernel)) ggX11_readStatement_X11_here
set_option maxRecDepth 20000 in
theorem ggX11_readStatement_X11_isLetter : GoodIn wsX11_readStatement wsX11_isLetter := goodIn_r _ [16] (by decide +kernel) (by decide +kernel)
set_option maxRecDepth 20000 in
theorem gX11_readStatement_X11_isLetter : GoodIn wsX11_readStatement (va_wsS RX11 151 yX11_isLetter wsX11_isLetter) := goodIn_app (goodIn_of _ (by decide +kernel)) ggX11_readStatement_X11_isLetter
set_option maxRecDepth 20000 in
theorem ggX11_readStatement_X11_readNumbers : GoodIn wsX11_readStatement wsX11_readNumbers := goodIn_r _ [20, 21, 22, 23, 24, 9, 25, 5, 26, 27, 3, 6, 7, 8, 10, 11, 12, 13, 28, 29, 30, 31, 32, 33, 34, 35, 36, 37, 38, 39, 40, 41, 42, 43, 44, 45, 46, 47, 48, 49, 50, 51, 52, 53, 54, 55, 56, 57, 58, 59, 60, 61, 62, 63, 64, 65, 66, 67] (by decide +kernel) (by decide +kernel)
set_option maxRecDepth 20000 in
theorem gX11_readStatement_X11_readNumbers : GoodIn wsX11_readStatement (wsV RX11 155 RX11 yX11_readNumbers wsX11_readNumbers) := goodIn_app (goodIn_of _ (by decide +kernel)) ggX11_readStatement_X11_readNumbers
theorem dX11_readStatement_0 : decode cX11_readStatement 0 = .ok (.aload_n 0, 1) := by decide +kernel
theorem dX11_readStatement_1 : decode cX11_readStatement 1 = .ok (.getfield 148, 3) := by decide +kernel
theorem dX11_readStatement_4 : decode cX11_readStatement 4 = .ok (.istore_n 1, 1) := by decide +kernel
theorem dX11_readStatement_5 : decode cX11_readStatement 5 = .ok (.aload_n 0, 1) := by decide +kernel
theorem dX11_readStatement_6 : decode cX11_readStatement 6 = .ok (.invokevirtual 138, 3) := by decide +kernel
theorem dX11_readStatement_9 : decode cX11_readStatement 9 = .ok (.istore_n 2, 1) := by decide +kernel
theorem dX11_readStatement_10 : decode cX11_readStatement 10 = .ok (.aload_n 0, 1) := by decide +kernel
theorem dX11_readStatement_11 : decode cX11_readStatement 11 = .ok (.getfield 53, 3) := by decide +kernel
theorem dX11_readStatement_14 : decode cX11_readStatement 14 = .ok (.iload_n 1, 1) := by decide +kernel
theorem dX11_readStatement_15 : decode cX11_readStatement 15 = .ok (.aload_n 0, 1) := by decide +kernel
theorem dX11_readStatement_16 : decode cX11_readStatement 16 = .ok (.getfield 129, 3) := by decide +kernel
theorem dX11_readStatement_19 : decode cX11_readStatement 19 = .ok (.iastore, 1) := by decide +kernel
theorem dX11_readStatement_20 : decode cX11_readStatement 20 = .ok (.aload_n 0, 1) := by decide +kernel
theorem dX11_readStatement_21 : decode cX11_readStatement 21 = .ok (.getfield 56, 3) := by decide +kernel
theorem dX11_readStatement_24 : decode cX11_readStatement 24 = .ok (.iload_n 1, 1) := by decide +kernel
theorem dX11_readStatement_25 : decode cX11_readStatement 25 = .ok (.iload_n 2, 1) := by decide +kernel
theorem dX11_readStatement_26 : decode cX11_readStatement 26 = .ok (.iastore, 1) := by decide +kernel
theorem dX11_readStatement_27 : decode cX11_readStatement 27 = .ok (.aload_n 0, 1) := by decide +kernel
theorem dX11_readStatement_28 : decode cX11_readStatement 28 = .ok (.aload_n 0, 1) := by decide +kernel
theorem dX11_readStatement_29 : decode cX11_readStatement 29 = .ok (.getfield 135, 3) := by decide +kernel
theorem dX11_readStatement_32 : decode cX11_readStatement 32 = .ok (.ifCond .ne 10, 3) := by decide +kernel
theorem dX11_readStatement_35 : decode cX11_readStatement 35 = .ok (.iload_n 2, 1) := by decide +kernel
theorem dX11_readStatement_36 : decode cX11_readStatement 36 = .ok (.invokestatic 151, 3) := by decide +kernel
theorem dX11_readStatement_39 : decode cX11_readStatement 39 = .ok (.ifCond .ne 7, 3) := by decide +kernel
theorem dX11_readStatement_42 : decode cX11_readStatement 42 = .ok (.iconst 1, 1) := by decide +kernel
theorem dX11_readStatement_43 : decode cX11_readStatement 43 = .ok (.goto 4, 3) := by decide +kernel
theorem dX11_readStatement_46 : decode cX11_readStatement 46 = .ok (.iconst 0, 1) := by decide +kernel
theorem dX11_readStatement_47 : decode cX11_readStatement 47 = .ok (.putfield 135, 3) := by decide +kernel
theorem dX11_readStatement_50 : decode cX11_readStatement 50 = .ok (.aload_n 0, 1) := by decide +kernel
theorem dX11_readStatement_51 : decode cX11_readStatement 51 = .ok (.dup, 1) := by decide +kernel
theorem dX11_readStatement_52 : decode cX11_readStatement 52 = .ok (.getfield 129, 3) := by decide +kernel
theorem dX11_readStatement_55 : decode cX11_readStatement 55 = .ok (.aload_n 0, 1) := by decide +kernel
theorem dX11_readStatement_56 : decode cX11_readStatement 56 = .ok (.getfield 135, 3) := by decide +kernel
theorem dX11_readStatement_59 : decode cX11_readStatement 59 = .ok (.ifCond .eq 7, 3) := by decide +kernel
theorem dX11_readStatement_62 : decode cX11_readStatement 62 = .ok (.iconst 0, 1) := by decide +kernel
theorem dX11_readStatement_63 : decode cX11_readStatement 63 = .ok (.goto 4, 3) := by decide +kernel
theorem dX11_readStatement_66 : decode cX11_readStatement 66 = .ok (.iconst 1, 1) := by decide +kernel
theorem dX11_readStatement_67 : decode cX11_readStatement 67 = .ok (.iadd, 1) := by decide +kernel
theorem dX11_readStatement_68 : decode cX11_readStatement 68 = .ok (.putfield 129, 3) := by decide +kernel
theorem dX11_readStatement_71 : decode cX11_readStatement 71 = .ok (.aload_n 0, 1) := by decide +kernel
theorem dX11_readStatement_72 : decode cX11_readStatement 72 = .ok (.getfield 135, 3) := by decide +kernel
theorem dX11_readStatement_75 : decode cX11_readStatement 75 = .ok (.ifCond .ne 11, 3) := by decide +kernel
theorem dX11_readStatement_78 : decode cX11_readStatement 78 = .ok (.aload_n 0, 1) := by decide +kernel
theorem dX11_readStatement_79 : decode cX11_readStatement 79 = .ok (.iload_n 2, 1) := by decide +kernel
theorem dX11_readStatement_80 : decode cX11_readStatement 80 = .ok (.iconst 3, 1) := by decide +kernel
theorem dX11_readStatement_81 : decode cX11_readStatement 81 = .ok (.iload_n 1, 1) := by decide +kernel
theorem dX11_readStatement_82 : decode cX11_readStatement 82 = .ok (.imul, 1) := by decide +kernel
theorem dX11_readStatement_83 : decode cX11_readStatement 83 = .ok (.invokevirtual 155, 3) := by decide +kernel
theorem dX11_readStatement_86 : decode cX11_readStatement 86 = .ok (.aload_n 0, 1) := by decide +kernel
theorem dX11_readStatement_87 : decode cX11_readStatement 87 = .ok (.aload_n 0, 1) := by decide +kernel
theorem dX11_readStatement_88 : decode cX11_readStatement 88 = .ok (.getfield 135, 3) := by decide +kernel
theorem dX11_readStatement_91 : decode cX11_readStatement 91 = .ok (.ifCond .ne 12, 3) := by decide +kernel
theorem dX11_readStatement_94 : decode cX11_readStatement 94 = .ok (.aload_n 0, 1) := by decide +kernel
theorem dX11_readStatement_95 : decode cX11_readStatement 95 = .ok (.invokevirtual 138, 3) := by decide +kernel
theorem dX11_readStatement_98 : decode cX11_readStatement 98 = .ok (.bipush 59, 2) := by decide +kernel
theorem dX11_readStatement_100 : decode cX11_readStatement 100 = .ok (.if_icmp .eq 7, 3) := by decide +kernel
theorem dX11_readStatement_103 : decode cX11_readStatement 103 = .ok (.iconst 1, 1) := by decide +kernel
theorem dX11_readStatement_104 : decode cX11_readStatement 104 = .ok (.goto 4, 3) := by decide +kernel
theorem dX11_readStatement_107 : decode cX11_readStatement 107 = .ok (.iconst 0, 1) := by decide +kernel
theorem dX11_readStatement_108 : decode cX11_readStatement 108 = .ok (.putfield 135, 3) := by decide +kernel
theorem dX11_readStatement_111 : decode cX11_readStatement 111 = .ok (.aload_n 0, 1) := by decide +kernel
theorem dX11_readStatement_112 : decode cX11_readStatement 112 = .ok (.dup, 1) := by decide +kernel
theorem dX11_readStatement_113 : decode cX11_readStatement 113 = .ok (.getfield 129, 3) := by decide +kernel
theorem dX11_readStatement_116 : decode cX11_readStatement 116 = .ok (.aload_n 0, 1) := by decide +kernel
theorem dX11_readStatement_117 : decode cX11_readStatement 117 = .ok (.getfield 135, 3) := by decide +kernel
theorem dX11_readStatement_120 : decode cX11_readStatement 120 = .ok (.ifCond .eq 7, 3) := by decide +kernel
theorem dX11_readStatement_123 : decode cX11_readStatement 123 = .ok (.iconst 0, 1) := by decide +kernel
theorem dX11_readStatement_124 : decode cX11_readStatement 124 = .ok (.goto 4, 3) := by decide +kernel
theorem dX11_readStatement_127 : decode cX11_readStatement 127 = .ok (.iconst 1, 1) := by decide +kernel
theorem dX11_readStatement_128 : decode cX11_readStatement 128 = .ok (.iadd, 1) := by decide +kernel
theorem dX11_readStatement_129 : decode cX11_readStatement 129 = .ok (.putfield 129, 3) := by decide +kernel
theorem dX11_readStatement_132 : decode cX11_readStatement 132 = .ok (.aload_n 0, 1) := by decide +kernel
theorem dX11_readStatement_133 : decode cX11_readStatement 133 = .ok (.dup, 1) := by decide +kernel
theorem dX11_readStatement_134 : decode cX11_readStatement 134 = .ok (.getfield 148, 3) := by decide +kernel
theorem dX11_readStatement_137 : decode cX11_readStatement 137 = .ok (.iconst 1, 1) := by decide +kernel
theorem dX11_readStatement_138 : decode cX11_readStatement 138 = .ok (.iadd, 1) := by decide +kernel
theorem dX11_readStatement_139 : decode cX11_readStatement 139 = .ok (.putfield 148, 3) := by decide +kernel
theorem dX11_readStatement_142 : decode cX11_readStatement 142 = .ok (.return_, 1) := by decide +kernel
/-! readStatement -/
def X11_readStatement_p128 (st : MS) (t1 : Int32) (t2 : Int32) : Option (Unit × MS) :=
    nm (sF st 20 (t1 + t2)) fun st_1 =>
    nm (sF st_1 22 ((gF st_1 22) + (1 : Int32))) fun st_2 =>
    some ((), st_2)
def X11_readStatement_p108 (st : MS) (t1 : Int32) : Option (Unit × MS) :=
    gz t1 <|
    nm (sF st 21 t1) fun st_3 =>
    if (gF st_3 21) = 0 then
      (X11_readStatement_p128 st_3 (gF st_3 20) (1 : Int32))
    else
    X11_readStatement_p128 st_3 (gF st_3 20) (0 : Int32)
def X11_readStatement_p103 (st : MS) : Option (Unit × MS) :=
    X11_readStatement_p108 st (1 : Int32)
def X11_readStatement_p86 (st : MS) : Option (Unit × MS) :=
    if (gF st 21) = 0 then
      (bnd (X11_here st) fun y_8 st_7 =>
      if y_8 = (59 : Int32) then
        (X11_readStatement_p108 st_7 (0 : Int32))
      else
      X11_readStatement_p103 st_7)
    else
    X11_readStatement_p103 st
def X11_readStatement_p67 (st : MS) (v1 : Int32) (v2 : Int32) (t1 : Int32) (t2 : Int32) : Option (Unit × MS) :=
    nm (sF st 20 (t1 + t2)) fun st_11 =>
    if (gF st_11 21) = 0 then
      (bnd (X11_readNumbers st_11 v2 ((3 : Int32) * v1)) fun _ st_13 =>
      X11_readStatement_p86 st_13)
    else
    X11_readStatement_p86 st_11
def X11_readStatement_p47 (st : MS) (v1 : Int32) (v2 : Int32) (t1 : Int32) : Option (Unit × MS) :=
    gz t1 <|
    nm (sF st 21 t1) fun st_15 =>
    if (gF st_15 21) = 0 then
      (X11_readStatement_p67 st_15 v1 v2 (gF st_15 20) (1 : Int32))
    else
    X11_readStatement_p67 st_15 v1 v2 (gF st_15 20) (0 : Int32)
def X11_readStatement_p42 (st : MS) (v1 : Int32) (v2 : Int32) : Option (Unit × MS) :=
    X11_readStatement_p47 st v1 v2 (1 : Int32)
def X11_readStatement (st : MS) : Option (Unit × MS) :=
    nm ((gF st 22)) fun x_18 =>
    bnd (X11_here st) fun y_20 st_19 =>
    inr x_18 51 <|
    nm (sA st_19 23 x_18.toNatClampNeg (gF st_19 20)) fun st_23 =>
    inr x_18 51 <|
    nm (sA st_23 24 x_18.toNatClampNeg y_20) fun st_25 =>
    if (gF st_25 21) = 0 then
      (bd1 (X11_isLetter y_20) fun y_27 =>
      if y_27 = 0 then
        (X11_readStatement_p42 st_25 x_18 y_20)
      else
      X11_readStatement_p47 st_25 x_18 y_20 (0 : Int32))
    else
    X11_readStatement_p42 st_25 x_18 y_20
abbrev rmX11_readStatement : Room := { frames := 3, cells := 0, slots := 0, locals := 70 }
theorem hdX11_readStatement : yX11_readStatement.cls = RX11 ∧ yX11_readStatement.cls ≠ "java/lang/invoke/MethodHandle" ∧ yX11_readStatement.cls ≠ "java/lang/invoke/VarHandle" ∧ (parseMethodDescriptor yX11_readStatement.desc).map (fun d => d.parameters.length) = some 0 := by decide +kernel
set_option maxRecDepth 100000 in
set_option maxHeartbeats 4000000 in
theorem okX11_readStatement (l : Launch) (D : va_G) (a : Nat → Nat) (T : mT3) {st : MS} {st' : MS} (heq : X11_readStatement st = some ((), st')) : gCv l D (mT T) yX11_readStatement wsX11_readStatement rmX11_readStatement [.ref (a 0)] (mW a T st) (mW a T st') := by
  refine g_body_v (by decide) rfl (Nat.le_of_ble_eq_true rfl) (fun p e s m args below meth c A Q hx hb hml hown hts hK hA _ hret ls hP hD hS hl => ?_)
  have hl : lv_has ls 3 [(0, .ref (a 0))] := hl
  have hin : ∀ w ∈ wsX110, w ∈ wsX11_readStatement := fun w h => List.mem_cons_of_mem _ (List.mem_append_right _ h)
  have f53 : (Cond.fieldLink RX11 53 RX11 (TX11 23).2.1 (TX11 23).2.2.1).before args s = true := hts (.fieldLink RX11 53 "LaidDownTheLaneModel" "placeIn" "[I") (by decide +kernel)
  have f56 : (Cond.fieldLink RX11 56 RX11 (TX11 24).2.1 (TX11 24).2.2.1).before args s = true := hts (.fieldLink RX11 56 "LaidDownTheLaneModel" "letterOf" "[I") (by decide +kernel)
  have f129 : (Cond.fieldLink RX11 129 RX11 (TX11 20).2.1 (TX11 20).2.2.1).before args s = true := hts (.fieldLink RX11 129 "LaidDownTheLaneModel" "at" "I") (by decide +kernel)
  have f135 : (Cond.fieldLink RX11 135 RX11 (TX11 21).2.1 (TX11 21).2.2.1).before args s = true := hts (.fieldLink RX11 135 "LaidDownTheLaneModel" "isBad" "Z") (by decide +kernel)
  have f148 : (Cond.fieldLink RX11 148 RX11 (TX11 22).2.1 (TX11 22).2.2.1).before args s = true := hts (.fieldLink RX11 148 "LaidDownTheLaneModel" "statements" "I") (by decide +kernel)
  have b128 : ∀ (st : MS) (t1 : Int32) (t2 : Int32) (H : Heap) (locs : List Loc) (ls : Array Slot), va_P D vwCl (mW a T st) H → va_D A (mW a T st) → va_S A s.heap H locs → lv_has ls 3 [(0, .ref (a 0))] → X11_readStatement_p128  st t1 t2 = some ((), st') → W p l e rmX11_readStatement s m args below meth c H locs 0 0 Q (F0 m 128 ls [.int t2, .int t1, .ref (a 0)]) := by
    intro st t1 t2 H locs ls hP hD hS hl heq
    unfold X11_readStatement_p128 at heq
    refine lv_iadd hx hb dX11_readStatement_128 ?_
    refine mp (k := 20) hx hb hts hin hown hK hP hD hS (by decide) f129 dX11_readStatement_129 rfl rfl rfl rfl (mset_20 ..) (fun H locs hP hD hS => ?_)
    obtain ⟨st_1, est_1⟩ : ∃ z, z = sF st 20 (t1 + t2) := ⟨_, rfl⟩
    rw [← est_1] at hP hD
    have heq := nm_h est_1 heq
    refine lv_aload_n hx hb dX11_readStatement_132 rfl (lv_at hl 0 rfl) ?_
    refine lv_dup hx hb dX11_readStatement_133 rfl ?_
    refine mg (k := 22) (v := .int (gF st_1 22)) hx hb hts hin hown hK hP (by decide) f148 rfl dX11_readStatement_134 rfl ?_
    refine lv_iconst (v := (1 : Int32)) hx hb dX11_readStatement_137 (by decide) ?_
    refine lv_iadd hx hb dX11_readStatement_138 ?_
    refine mp (k := 22) hx hb hts hin hown hK hP hD hS (by decide) f148 dX11_readStatement_139 rfl rfl rfl rfl (mset_22 ..) (fun H locs hP hD hS => ?_)
    obtain ⟨st_2, est_2⟩ : ∃ z, z = sF st_1 22 ((gF st_1 22) + (1 : Int32)) := ⟨_, rfl⟩
    rw [← est_2] at hP hD
    have heq := nm_h est_2 heq
    obtain ⟨-, heq2⟩ := ret_h heq
    subst heq2
    exact hret 142 H locs ls hP hD hS dX11_readStatement_142
  have b108 : ∀ (st : MS) (t1 : Int32) (H : Heap) (locs : List Loc) (ls : Array Slot), va_P D vwCl (mW a T st) H → va_D A (mW a T st) → va_S A s.heap H locs → lv_has ls 3 [(0, .ref (a 0))] → X11_readStatement_p108  st t1 = some ((), st') → W p l e rmX11_readStatement s m args below meth c H locs 0 0 Q (F0 m 108 ls [.int t1, .ref (a 0)]) := by
    intro st t1 H locs ls hP hD hS hl heq
    unfold X11_readStatement_p108 at heq
    obtain ⟨n_4, n_4f, heq⟩ := gz_h heq
    refine mp (k := 21) hx hb hts hin hown hK hP hD hS (by decide) f135 dX11_readStatement_108 rfl rfl n_4 n_4f (mset_21 ..) (fun H locs hP hD hS => ?_)
    obtain ⟨st_3, est_3⟩ : ∃ z, z = sF st 21 t1 := ⟨_, rfl⟩
    rw [← est_3] at hP hD
    have heq := nm_h est_3 heq
    refine lv_aload_n hx hb dX11_readStatement_111 rfl (lv_at hl 0 rfl) ?_
    refine lv_dup hx hb dX11_readStatement_112 rfl ?_
    refine mg (k := 20) (v := .int (gF st_3 20)) hx hb hts hin hown hK hP (by decide) f129 rfl dX11_readStatement_113 rfl ?_
    refine lv_aload_n hx hb dX11_readStatement_116 rfl (lv_at hl 0 rfl) ?_
    refine mg (k := 21) (v := .int (gF st_3 21)) hx hb hts hin hown hK hP (by decide) f135 rfl dX11_readStatement_117 rfl ?_
    refine lv_if_eq (tgt := 127) hx hb dX11_readStatement_120 (by decide) (fun c_5 => ?_) (fun c_5 => ?_)
    · have heq := it_t c_5 heq
      refine lv_iconst (v := (1 : Int32)) hx hb dX11_readStatement_127 (by decide) ?_
      exact b128 st_3 (gF st_3 20) (1 : Int32) H locs ls hP hD hS (lv_sub hl [0] rfl) heq
    have heq := it_f c_5 heq
    refine lv_iconst (v := (0 : Int32)) hx hb dX11_readStatement_123 (by decide) ?_
    refine lv_goto (tgt := 128) hx hb dX11_readStatement_124 (by decide) ?_
    exact b128 st_3 (gF st_3 20) (0 : Int32) H locs ls hP hD hS (lv_sub hl [0] rfl) heq
  have b103 : ∀ (st : MS) (H : Heap) (locs : List Loc) (ls : Array Slot), va_P D vwCl (mW a T st) H → va_D A (mW a T st) → va_S A s.heap H locs → lv_has ls 3 [(0, .ref (a 0))] → X11_readStatement_p103  st = some ((), st') → W p l e rmX11_readStatement s m args below meth c H locs 0 0 Q (F0 m 103 ls [.ref (a 0)]) := by
    intro st H locs ls hP hD hS hl heq
    unfold X11_readStatement_p103 at heq
    refine lv_iconst (v := (1 : Int32)) hx hb dX11_readStatement_103 (by decide) ?_
    refine lv_goto (tgt := 108) hx hb dX11_readStatement_104 (by decide) ?_
    exact b108 st (1 : Int32) H locs ls hP hD hS (lv_sub hl [0] rfl) heq
  have b86 : ∀ (st : MS) (H : Heap) (locs : List Loc) (ls : Array Slot), va_P D vwCl (mW a T st) H → va_D A (mW a T st) → va_S A s.heap H locs → lv_has ls 3 [(0, .ref (a 0))] → X11_readStatement_p86  st = some ((), st') → W p l e rmX11_readStatement s m args below meth c H locs 0 0 Q (F0 m 86 ls []) := by
    intro st H locs ls hP hD hS hl heq
    unfold X11_readStatement_p86 at heq
    refine lv_aload_n hx hb dX11_readStatement_86 rfl (lv_at hl 0 rfl) ?_
    refine lv_aload_n hx hb dX11_readStatement_87 rfl (lv_at hl 0 rfl) ?_
    refine mg (k := 21) (v := .int (gF st 21)) hx hb hts hin hown hK hP (by decide) f135 rfl dX11_readStatement_88 rfl ?_
    refine lv_if_ne (tgt := 103) hx hb dX11_readStatement_91 (by decide) (fun c_6 => ?_) (fun c_6 => ?_)
    · have heq := it_f c_6 heq
      exact b103 st H locs ls hP hD hS (lv_sub hl [0] rfl) heq
    have heq := it_t c_6 heq
    refine lv_aload_n hx hb dX11_readStatement_94 rfl (lv_at hl 0 rfl) ?_
    obtain ⟨y_8, st_7, h_9, heq⟩ := bnd_h heq
    refine g_vi (own := RX11) (As := []) (rest := [.ref (a 0)]) hx hb hml hown hts (okX11_here l D a T h_9) (cwV 0 hts gX11_readStatement_X11_here rfl rfl rfl hdX11_here ⟨Nat.le_of_ble_eq_true rfl, Nat.le_of_ble_eq_true rfl⟩) hK hA hP hD hS (ci := 11) (q0 := 0) rfl rfl rfl hl.1 rfl (Nat.le_of_ble_eq_true rfl) dX11_readStatement_95 ⟨Nat.le_of_ble_eq_true rfl, Nat.le_of_ble_eq_true rfl⟩ (fun H locs hP hD hS => ?_)
    refine lv_bipush (v := (59 : Int32)) hx hb dX11_readStatement_98 (by decide) ?_
    refine lv_icmp_eq (tgt := 107) hx hb dX11_readStatement_100 (by decide) (fun c_10 => ?_) (fun c_10 => ?_)
    · have heq := it_t c_10 heq
      refine lv_iconst (v := (0 : Int32)) hx hb dX11_readStatement_107 (by decide) ?_
      exact b108 st_7 (0 : Int32) H locs ls hP hD hS (lv_sub hl [0] rfl) heq
    have heq := it_f c_10 heq
    exact b103 st_7 H locs ls hP hD hS (lv_sub hl [0] rfl) heq
  have b67 : ∀ (st : MS) (v1 : Int32) (v2 : Int32) (t1 : Int32) (t2 : Int32) (H : Heap) (locs : List Loc) (ls : Array Slot), va_P D vwCl (mW a T st) H → va_D A (mW a T st) → va_S A s.heap H locs → lv_has ls 3 [(0, .ref (a 0)), (1, .int v1), (2, .int v2)] → X11_readStatement_p67  st v1 v2 t1 t2 = some ((), st') → W p l e rmX11_readStatement s m args below meth c H locs 0 0 Q (F0 m 67 ls [.int t2, .int t1, .ref (a 0)]) := by
    intro st v1 v2 t1 t2 H locs ls hP hD hS hl heq
    unfold X11_readStatement_p67 at heq
    refine lv_iadd hx hb dX11_readStatement_67 ?_
    refine mp (k := 20) hx hb hts hin hown hK hP hD hS (by decide) f129 dX11_readStatement_68 rfl rfl rfl rfl (mset_20 ..) (fun H locs hP hD hS => ?_)
    obtain ⟨st_11, est_11⟩ : ∃ z, z = sF st 20 (t1 + t2) := ⟨_, rfl⟩
    rw [← est_11] at hP hD
    have heq := nm_h est_11 heq
    refine lv_aload_n hx hb dX11_readStatement_71 rfl (lv_at hl 0 rfl) ?_
    refine mg (k := 21) (v := .int (gF st_11 21)) hx hb hts hin hown hK hP (by decide) f135 rfl dX11_readStatement_72 rfl ?_
    refine lv_if_ne (tgt := 86) hx hb dX11_readStatement_75 (by decide) (fun c_12 => ?_) (fun c_12 => ?_)
    · have heq := it_f c_12 heq
      exact b86 st_11 H locs ls hP hD hS (lv_sub hl [0] rfl) heq
    have heq := it_t c_12 heq
    refine lv_aload_n hx hb dX11_readStatement_78 rfl (lv_at hl 0 rfl) ?_
    refine lv_iload_n hx hb dX11_readStatement_79 rfl (lv_at hl 2 rfl) ?_
    refine lv_iconst (v := (3 : Int32)) hx hb dX11_readStatement_80 (by decide) ?_
    refine lv_iload_n hx hb dX11_readStatement_81 rfl (lv_at hl 1 rfl) ?_
    refine lv_imul hx hb dX11_readStatement_82 ?_
    obtain ⟨⟨⟩, st_13, h_14, heq⟩ := bnd_h heq
    refine g_vv (own := RX11) (As := [.int v2, .int ((3 : Int32) * v1)]) (rest := []) hx hb hml hown hts (okX11_readNumbers l D a T h_14) (cwV 2 hts gX11_readStatement_X11_readNumbers rfl rfl rfl hdX11_readNumbers ⟨Nat.le_of_ble_eq_true rfl, Nat.le_of_ble_eq_true rfl⟩) hK hA hP hD hS (ci := 11) (q0 := 0) rfl rfl rfl hl.1 rfl (Nat.le_of_ble_eq_true rfl) dX11_readStatement_83 ⟨Nat.le_of_ble_eq_true rfl, Nat.le_of_ble_eq_true rfl⟩ (fun H locs hP hD hS => ?_)
    exact b86 st_13 H locs ls hP hD hS (lv_sub hl [0] rfl) heq
  have b47 : ∀ (st : MS) (v1 : Int32) (v2 : Int32) (t1 : Int32) (H : Heap) (locs : List Loc) (ls : Array Slot), va_P D vwCl (mW a T st) H → va_D A (mW a T st) → va_S A s.heap H locs → lv_has ls 3 [(0, .ref (a 0)), (1, .int v1), (2, .int v2)] → X11_readStatement_p47  st v1 v2 t1 = some ((), st') → W p l e rmX11_readStatement s m args below meth c H locs 0 0 Q (F0 m 47 ls [.int t1, .ref (a 0)]) := by
    intro st v1 v2 t1 H locs ls hP hD hS hl heq
    unfold X11_readStatement_p47 at heq
    obtain ⟨n_16, n_16f, heq⟩ := gz_h heq
    refine mp (k := 21) hx hb hts hin hown hK hP hD hS (by decide) f135 dX11_readStatement_47 rfl rfl n_16 n_16f (mset_21 ..) (fun H locs hP hD hS => ?_)
    obtain ⟨st_15, est_15⟩ : ∃ z, z = sF st 21 t1 := ⟨_, rfl⟩
    rw [← est_15] at hP hD
    have heq := nm_h est_15 heq
    refine lv_aload_n hx hb dX11_readStatement_50 rfl (lv_at hl 0 rfl) ?_
    refine lv_dup hx hb dX11_readStatement_51 rfl ?_
    refine mg (k := 20) (v := .int (gF st_15 20)) hx hb hts hin hown hK hP (by decide) f129 rfl dX11_readStatement_52 rfl ?_
    refine lv_aload_n hx hb dX11_readStatement_55 rfl (lv_at hl 0 rfl) ?_
    refine mg (k := 21) (v := .int (gF st_15 21)) hx hb hts hin hown hK hP (by decide) f135 rfl dX11_readStatement_56 rfl ?_
    refine lv_if_eq (tgt := 66) hx hb dX11_readStatement_59 (by decide) (fun c_17 => ?_) (fun c_17 => ?_)
    · have heq := it_t c_17 heq
      refine lv_iconst (v := (1 : Int32)) hx hb dX11_readStatement_66 (by decide) ?_
      exact b67 st_15 v1 v2 (gF st_15 20) (1 : Int32) H locs ls hP hD hS (lv_sub hl [0, 1, 2] rfl) heq
    have heq := it_f c_17 heq
    refine lv_iconst (v := (0 : Int32)) hx hb dX11_readStatement_62 (by decide) ?_
    refine lv_goto (tgt := 67) hx hb dX11_readStatement_63 (by decide) ?_
    exact b67 st_15 v1 v2 (gF st_15 20) (0 : Int32) H locs ls hP hD hS (lv_sub hl [0, 1, 2] rfl) heq
  have b42 : ∀ (st : MS) (v1 : Int32) (v2 : Int32) (H : Heap) (locs : List Loc) (ls : Array Slot), va_P D vwCl (mW a T st) H → va_D A (mW a T st) → va_S A s.heap H locs → lv_has ls 3 [(0, .ref (a 0)), (1, .int v1), (2, .int v2)] → X11_readStatement_p42  st v1 v2 = some ((), st') → W p l e rmX11_readStatement s m args below meth c H locs 0 0 Q (F0 m 42 ls [.ref (a 0)]) := by
    intro st v1 v2 H locs ls hP hD hS hl heq
    unfold X11_readStatement_p42 at heq
    refine lv_iconst (v := (1 : Int32)) hx hb dX11_readStatement_42 (by decide) ?_
    refine lv_goto (tgt := 47) hx hb dX11_readStatement_43 (by decide) ?_
    exact b47 st v1 v2 (1 : Int32) H locs ls hP hD hS (lv_sub hl [0, 1, 2] rfl) heq
  obtain ⟨H, hH⟩ : ∃ H, H = s.heap := ⟨_, rfl⟩
  obtain ⟨locs, hlocs⟩ : ∃ z : List Loc, z = [] := ⟨_, rfl⟩
  have hS : va_S A s.heap H locs := by rw [hH, hlocs]; exact hS
  have hP : va_P D vwCl (mW a T st) H := by rw [hH]; exact hP
  suffices h9 : W p l e rmX11_readStatement s m args below meth c H locs 0 0 Q (F0 m 0 ls []) by rw [hH, hlocs] at h9; exact h9
  clear hH hlocs
  unfold X11_readStatement at heq
  refine lv_aload_n hx hb dX11_readStatement_0 rfl (lv_at hl 0 rfl) ?_
  refine mg (k := 22) (v := .int (gF st 22)) hx hb hts hin hown hK hP (by decide) f148 rfl dX11_readStatement_1 rfl ?_
  refine lv_topi (fun x_18 ex_18 => ?_)
  have heq := nm_h ex_18 heq
  refine lv_istore_n (lv' := [(1, .int x_18), (0, .ref (a 0))]) hx hb dX11_readStatement_4 rfl hl (by decide) rfl (fun ls hl => ?_)
  refine lv_aload_n hx hb dX11_readStatement_5 rfl (lv_at hl 1 rfl) ?_
  obtain ⟨y_20, st_19, h_21, heq⟩ := bnd_h heq
  refine g_vi (own := RX11) (As := []) (rest := []) hx hb hml hown hts (okX11_here l D a T h_21) (cwV 0 hts gX11_readStatement_X11_here rfl rfl rfl hdX11_here ⟨Nat.le_of_ble_eq_true rfl, Nat.le_of_ble_eq_true rfl⟩) hK hA hP hD hS (ci := 11) (q0 := 0) rfl rfl rfl hl.1 rfl (Nat.le_of_ble_eq_true rfl) dX11_readStatement_6 ⟨Nat.le_of_ble_eq_true rfl, Nat.le_of_ble_eq_true rfl⟩ (fun H locs hP hD hS => ?_)
  refine lv_istore_n (lv' := [(2, .int y_20), (1, .int x_18), (0, .ref (a 0))]) hx hb dX11_readStatement_9 rfl hl (by decide) rfl (fun ls hl => ?_)
  refine lv_aload_n hx hb dX11_readStatement_10 rfl (lv_at hl 2 rfl) ?_
  refine mg (k := 23) (v := .ref (a 15)) hx hb hts hin hown hK hP (by decide) f53 rfl dX11_readStatement_11 rfl ?_
  refine lv_iload_n hx hb dX11_readStatement_14 rfl (lv_at hl 1 rfl) ?_
  refine lv_aload_n hx hb dX11_readStatement_15 rfl (lv_at hl 2 rfl) ?_
  refine mg (k := 20) (v := .int (gF st_19 20)) hx hb hts hin hown hK hP (by decide) f129 rfl dX11_readStatement_16 rfl ?_
  obtain ⟨n_22, heq⟩ := inr_h heq
  refine mas (k := 23) (q := 15) (n := 51) hx hb hK hP hD hS rfl (maset_23 ..) n_22 dX11_readStatement_19 (fun H locs hP hD hS => ?_)
  obtain ⟨st_23, est_23⟩ : ∃ z, z = sA st_19 23 x_18.toNatClampNeg (gF st_19 20) := ⟨_, rfl⟩
  rw [← est_23] at hP hD
  have heq := nm_h est_23 heq
  refine lv_aload_n hx hb dX11_readStatement_20 rfl (lv_at hl 2 rfl) ?_
  refine mg (k := 24) (v := .ref (a 16)) hx hb hts hin hown hK hP (by decide) f56 rfl dX11_readStatement_21 rfl ?_
  refine lv_iload_n hx hb dX11_readStatement_24 rfl (lv_at hl 1 rfl) ?_
  refine lv_iload_n hx hb dX11_readStatement_25 rfl (lv_at hl 0 rfl) ?_
  obtain ⟨n_24, heq⟩ := inr_h heq
  refine mas (k := 24) (q := 16) (n := 51) hx hb hK hP hD hS rfl (maset_24 ..) n_24 dX11_readStatement_26 (fun H locs hP hD hS => ?_)
  obtain ⟨st_25, est_25⟩ : ∃ z, z = sA st_23 24 x_18.toNatClampNeg y_20 := ⟨_, rfl⟩
  rw [← est_25] at hP hD
  have heq := nm_h est_25 heq
  refine lv_aload_n hx hb dX11_readStatement_27 rfl (lv_at hl 2 rfl) ?_
  refine lv_aload_n hx hb dX11_readStatement_28 rfl (lv_at hl 2 rfl) ?_
  refine mg (k := 21) (v := .int (gF st_25 21)) hx hb hts hin hown hK hP (by decide) f135 rfl dX11_readStatement_29 rfl ?_
  refine lv_if_ne (tgt := 42) hx hb dX11_readStatement_32 (by decide) (fun c_26 => ?_) (fun c_26 => ?_)
  · have heq := it_f c_26 heq
    exact b42 st_25 x_18 y_20 H locs ls hP hD hS (lv_sub hl [2, 1, 0] rfl) heq
  have heq := it_t c_26 heq
  refine lv_iload_n hx hb dX11_readStatement_35 rfl (lv_at hl 0 rfl) ?_
  obtain ⟨y_27, h_28, heq⟩ := bd1_h heq
  refine g_si (own := RX11) (D := D) (As := [.int y_20]) (rest := [.ref (a 0)]) hx hb hml hown hts (okX11_isLetter l D h_28) (cwS 1 hts gX11_readStatement_X11_isLetter rfl rfl rfl hdX11_isLetter ⟨Nat.le_of_ble_eq_true rfl, Nat.le_of_ble_eq_true rfl⟩) hK hA hP hS rfl hl.1 rfl (Nat.le_of_ble_eq_true rfl) dX11_readStatement_36 ⟨Nat.le_of_ble_eq_true rfl, Nat.le_of_ble_eq_true rfl⟩ (fun H locs hP hS => ?_)
  refine lv_if_ne (tgt := 46) hx hb dX11_readStatement_39 (by decide) (fun c_29 => ?_) (fun c_29 => ?_)
  · have heq := it_f c_29 heq
    refine lv_iconst (v := (0 : Int32)) hx hb dX11_readStatement_46 (by decide) ?_
    exact b47 st_25 x_18 y_20 (0 : Int32) H locs ls hP hD hS (lv_sub hl [2, 1, 0] rfl) heq
  have heq := it_t c_29 heq
  exact b42 st_25 x_18 y_20 H locs ls hP hD hS (lv_sub hl [2, 1, 0] rfl) heq
theorem dX11_leastOf_0 : decode cX11_leastOf 0 = .ok (.iload_n 0, 1) := by decide +kernel
theorem dX11_leastOf_1 : decode cX11_leastOf 1 = .ok (.iconst 5, 1) := by decide +kernel
theorem dX11_leastOf_2 : decode cX11_leastOf 2 = .ok (.if_icmp .ne 8, 3) := by decide +kernel
theorem dX11_leastOf_5 : decode cX11_leastOf 5 = .ok (.bipush 20, 2) := by decide +kernel
theorem dX11_leastOf_7 : decode cX11_leastOf 7 = .ok (.goto 4, 3) := by decide +kernel
theorem dX11_leastOf_10 : decode cX11_leastOf 10 = .ok (.iconst 0, 1) := by decide +kernel
theorem dX11_leastOf_11 : decode cX11_leastOf 11 = .ok (.ireturn, 1) := by decide +kernel
/-! leastOf -/
def X11_leastOf_p11 (t0 : Int32) : Option Int32 :=
    some t0
def X11_leastOf (v0 : Int32) : Option Int32 :=
    if v0 = (5 : Int32) then
      (X11_leastOf_p11 (20 : Int32))
    else
    X11_leastOf_p11 (0 : Int32)
abbrev rmX11_leastOf : Room := { frames := 0, cells := 0, slots := 0, locals := 0 }
theorem hdX11_leastOf : yX11_leastOf.cls = RX11 ∧ yX11_leastOf.cls ≠ "java/lang/invoke/MethodHandle" ∧ yX11_leastOf.cls ≠ "java/lang/invoke/VarHandle" ∧ (parseMethodDescriptor yX11_leastOf.desc).map (fun d => d.parameters.length) = some 1 := by decide +kernel
set_option maxRecDepth 100000 in
set_option maxHeartbeats 4000000 in
theorem okX11_leastOf (l : Launch) (D : va_G) {v0 : Int32} {r : Int32} (heq : X11_leastOf v0 = some r) : gCi l D [] yX11_leastOf wsX11_leastOf rmX11_leastOf [.int v0] [] r [] := by
  refine g_body_i (by decide) rfl (Nat.le_of_ble_eq_true rfl) (fun p e s m args below meth c A Q hx hb hml hown hts hK hA hret ls hP hD hS hl => ?_)
  have hl : lv_has ls 1 [(0, .int v0)] := hl
  have b11 : ∀ (t0 : Int32) (H : Heap) (locs : List Loc) (ls : Array Slot), va_P D vwCl [] H → va_D A [] → va_S A s.heap H locs → lv_has ls 1 [] → X11_leastOf_p11  t0 = some r → W p l e rmX11_leastOf s m args below meth c H locs 0 0 Q (F0 m 11 ls [.int t0]) := by
    intro t0 H locs ls hP hD hS hl heq
    unfold X11_leastOf_p11 at heq
    have heq := Option.some.inj heq
    subst heq
    exact hret 11 H locs ls hP hD hS rfl dX11_leastOf_11
  obtain ⟨H, hH⟩ : ∃ H, H = s.heap := ⟨_, rfl⟩
  obtain ⟨locs, hlocs⟩ : ∃ z : List Loc, z = [] := ⟨_, rfl⟩
  have hS : va_S A s.heap H locs := by rw [hH, hlocs]; exact hS
  have hP : va_P D vwCl [] H := by rw [hH]; exact hP
  suffices h9 : W p l e rmX11_leastOf s m args below meth c H locs 0 0 Q (F0 m 0 ls []) by rw [hH, hlocs] at h9; exact h9
  clear hH hlocs
  unfold X11_leastOf at heq
  refine lv_iload_n hx hb dX11_leastOf_0 rfl (lv_at hl 0 rfl) ?_
  refine lv_iconst (v := (5 : Int32)) hx hb dX11_leastOf_1 (by decide) ?_
  refine lv_icmp_ne (tgt := 10) hx hb dX11_leastOf_2 (by decide) (fun c_1 => ?_) (fun c_1 => ?_)
  · have heq := it_f c_1 heq
    refine lv_iconst (v := (0 : Int32)) hx hb dX11_leastOf_10 (by decide) ?_
    exact b11 (0 : Int32) H locs ls hP hD hS (lv_sub hl [] rfl) heq
  have heq := it_t c_1 heq
  refine lv_bipush (v := (20 : Int32)) hx hb dX11_leastOf_5 (by decide) ?_
  refine lv_goto (tgt := 11) hx hb dX11_leastOf_7 (by decide) ?_
  exact b11 (20 : Int32) H locs ls hP hD hS (lv_sub hl [] rfl) heq
theorem dX11_mostOf_0 : decode cX11_mostOf 0 = .ok (.iload_n 0, 1) := by decide +kernel
theorem dX11_mostOf_1 : decode cX11_mostOf 1 = .ok (.iconst 4, 1) := by decide +kernel
theorem dX11_mostOf_2 : decode cX11_mostOf 2 = .ok (.if_icmp .ne 9, 3) := by decide +kernel
theorem dX11_mostOf_5 : decode cX11_mostOf 5 = .ok (.sipush 400, 3) := by decide +kernel
theorem dX11_mostOf_8 : decode cX11_mostOf 8 = .ok (.goto 31, 3) := by decide +kernel
theorem dX11_mostOf_11 : decode cX11_mostOf 11 = .ok (.iload_n 0, 1) := by decide +kernel
theorem dX11_mostOf_12 : decode cX11_mostOf 12 = .ok (.iconst 5, 1) := by decide +kernel
theorem dX11_mostOf_13 : decode cX11_mostOf 13 = .ok (.if_icmp .ne 9, 3) := by decide +kernel
theorem dX11_mostOf_16 : decode cX11_mostOf 16 = .ok (.sipush 200, 3) := by decide +kernel
theorem dX11_mostOf_19 : decode cX11_mostOf 19 = .ok (.goto 20, 3) := by decide +kernel
theorem dX11_mostOf_22 : decode cX11_mostOf 22 = .ok (.iload_n 0, 1) := by decide +kernel
theorem dX11_mostOf_23 : decode cX11_mostOf 23 = .ok (.iconst 1, 1) := by decide +kernel
theorem dX11_mostOf_24 : decode cX11_mostOf 24 = .ok (.if_icmp .eq 8, 3) := by decide +kernel
theorem dX11_mostOf_27 : decode cX11_mostOf 27 = .ok (.iload_n 0, 1) := by decide +kernel
theorem dX11_mostOf_28 : decode cX11_mostOf 28 = .ok (.iconst 3, 1) := by decide +kernel
theorem dX11_mostOf_29 : decode cX11_mostOf 29 = .ok (.if_icmp .ne 8, 3) := by decide +kernel
theorem dX11_mostOf_32 : decode cX11_mostOf 32 = .ok (.bipush 20, 2) := by decide +kernel
theorem dX11_mostOf_34 : decode cX11_mostOf 34 = .ok (.goto 5, 3) := by decide +kernel
theorem dX11_mostOf_37 : decode cX11_mostOf 37 = .ok (.bipush 11, 2) := by decide +kernel
theorem dX11_mostOf_39 : decode cX11_mostOf 39 = .ok (.ireturn, 1) := by decide +kernel
/-! mostOf -/
def X11_mostOf_p39 (t0 : Int32) : Option Int32 :=
    some t0
def X11_mostOf_p32 : Option Int32 :=
    X11_mostOf_p39 (20 : Int32)
def X11_mostOf (v0 : Int32) : Option Int32 :=
    if v0 = (4 : Int32) then
      (X11_mostOf_p39 (400 : Int32))
    else
    if v0 = (5 : Int32) then
      (X11_mostOf_p39 (200 : Int32))
    else
    if v0 = (1 : Int32) then
      (X11_mostOf_p32 )
    else
    if v0 = (3 : Int32) then
      (X11_mostOf_p32 )
    else
    X11_mostOf_p39 (11 : Int32)
abbrev rmX11_mostOf : Room := { frames := 0, cells := 0, slots := 0, locals := 0 }
theorem hdX11_mostOf : yX11_mostOf.cls = RX11 ∧ yX11_mostOf.cls ≠ "java/lang/invoke/MethodHandle" ∧ yX11_mostOf.cls ≠ "java/lang/invoke/VarHandle" ∧ (parseMethodDescriptor yX11_mostOf.desc).map (fun d => d.parameters.length) = some 1 := by decide +kernel
set_option maxRecDepth 100000 in
set_option maxHeartbeats 4000000 in
theorem okX11_mostOf (l : Launch) (D : va_G) {v0 : Int32} {r : Int32} (heq : X11_mostOf v0 = some r) : gCi l D [] yX11_mostOf wsX11_mostOf rmX11_mostOf [.int v0] [] r [] := by
  refine g_body_i (by decide) rfl (Nat.le_of_ble_eq_true rfl) (fun p e s m args below meth c A Q hx hb hml hown hts hK hA hret ls hP hD hS hl => ?_)
  have hl : lv_has ls 1 [(0, .int v0)] := hl
  have b39 : ∀ (t0 : Int32) (H : Heap) (locs : List Loc) (ls : Array Slot), va_P D vwCl [] H → va_D A [] → va_S A s.heap H locs → lv_has ls 1 [] → X11_mostOf_p39  t0 = some r → W p l e rmX11_mostOf s m args below meth c H locs 0 0 Q (F0 m 39 ls [.int t0]) := by
    intro t0 H locs ls hP hD hS hl heq
    unfold X11_mostOf_p39 at heq
    have heq := Option.some.inj heq
    subst heq
    exact hret 39 H locs ls hP hD hS rfl dX11_mostOf_39
  have b32 : ∀ (H : Heap) (locs : List Loc) (ls : Array Slot), va_P D vwCl [] H → va_D A [] → va_S A s.heap H locs → lv_has ls 1 [] → X11_mostOf_p32  = some r → W p l e rmX11_mostOf s m args below meth c H locs 0 0 Q (F0 m 32 ls []) := by
    intro H locs ls hP hD hS hl heq
    unfold X11_mostOf_p32 at heq
    refine lv_bipush (v := (20 : Int32)) hx hb dX11_mostOf_32 (by decide) ?_
    refine lv_goto (tgt := 39) hx hb dX11_mostOf_34 (by decide) ?_
    exact b39 (20 : Int32) H locs ls hP hD hS (lv_sub hl [] rfl) heq
  obtain ⟨H, hH⟩ : ∃ H, H = s.heap := ⟨_, rfl⟩
  obtain ⟨locs, hlocs⟩ : ∃ z : List Loc, z = [] := ⟨_, rfl⟩
  have hS : va_S A s.heap H locs := by rw [hH, hlocs]; exact hS
  have hP : va_P D vwCl [] H := by rw [hH]; exact hP
  suffices h9 : W p l e rmX11_mostOf s m args below meth c H locs 0 0 Q (F0 m 0 ls []) by rw [hH, hlocs] at h9; exact h9
  clear hH hlocs
  unfold X11_mostOf at heq
  refine lv_iload_n hx hb dX11_mostOf_0 rfl (lv_at hl 0 rfl) ?_
  refine lv_iconst (v := (4 : Int32)) hx hb dX11_mostOf_1 (by decide) ?_
  refine lv_icmp_ne (tgt := 11) hx hb dX11_mostOf_2 (by decide) (fun c_1 => ?_) (fun c_1 => ?_)
  · have heq := it_f c_1 heq
    refine lv_iload_n hx hb dX11_mostOf_11 rfl (lv_at hl 0 rfl) ?_
    refine lv_iconst (v := (5 : Int32)) hx hb dX11_mostOf_12 (by decide) ?_
    refine lv_icmp_ne (tgt := 22) hx hb dX11_mostOf_13 (by decide) (fun c_2 => ?_) (fun c_2 => ?_)
    · have heq := it_f c_2 heq
      refine lv_iload_n hx hb dX11_mostOf_22 rfl (lv_at hl 0 rfl) ?_
      refine lv_iconst (v := (1 : Int32)) hx hb dX11_mostOf_23 (by decide) ?_
      refine lv_icmp_eq (tgt := 32) hx hb dX11_mostOf_24 (by decide) (fun c_3 => ?_) (fun c_3 => ?_)
      · have heq := it_t c_3 heq
        exact b32  H locs ls hP hD hS (lv_sub hl [] rfl) heq
      have heq := it_f c_3 heq
      refine lv_iload_n hx hb dX11_mostOf_27 rfl (lv_at hl 0 rfl) ?_
      refine lv_iconst (v := (3 : Int32)) hx hb dX11_mostOf_28 (by decide) ?_
      refine lv_icmp_ne (tgt := 37) hx hb dX11_mostOf_29 (by decide) (fun c_4 => ?_) (fun c_4 => ?_)
      · have heq := it_f c_4 heq
        refine lv_bipush (v := (11 : Int32)) hx hb dX11_mostOf_37 (by decide) ?_
        exact b39 (11 : Int32) H locs ls hP hD hS (lv_sub hl [] rfl) heq
      have heq := it_t c_4 heq
      exact b32  H locs ls hP hD hS (lv_sub hl [] rfl) heq
    have heq := it_t c_2 heq
    refine lv_sipush (v := (200 : Int32)) hx hb dX11_mostOf_16 (by decide) ?_
    refine lv_goto (tgt := 39) hx hb dX11_mostOf_19 (by decide) ?_
    exact b39 (200 : Int32) H locs ls hP hD hS (lv_sub hl [] rfl) heq
  have heq := it_t c_1 heq
  refine lv_sipush (v := (400 : Int32)) hx hb dX11_mostOf_5 (by decide) ?_
  refine lv_goto (tgt := 39) hx hb dX11_mostOf_8 (by decide) ?_
  exact b39 (400 : Int32) H locs ls hP hD hS (lv_sub hl [] rfl) heq
set_option maxRecDepth 20000 in
theorem ggX11_comesSet_X11_leastOf : GoodIn wsX11_comesSet wsX11_leastOf := goodIn_r _ [5] (by decide +kernel) (by decide +kernel)
set_option maxRecDepth 20000 in
theorem gX11_comesSet_X11_leastOf : GoodIn wsX11_comesSet (va_wsS RX11 159 yX11_leastOf wsX11_leastOf) := goodIn_app (goodIn_of _ (by decide +kernel)) ggX11_comesSet_X11_leastOf
set_option maxRecDepth 20000 in
theorem ggX11_comesSet_X11_mostOf : GoodIn wsX11_comesSet wsX11_mostOf := goodIn_r _ [8] (by decide +kernel) (by decide +kernel)
set_option maxRecDepth 20000 in
theorem gX11_comesSet_X11_mostOf : GoodIn wsX11_comesSet (va_wsS RX11 162 yX11_mostOf wsX11_mostOf) := goodIn_app (goodIn_of _ (by decide +kernel)) ggX11_comesSet_X11_mostOf
set_option maxRecDepth 20000 in
theorem ggX11_comesSet_X11_in : GoodIn wsX11_comesSet wsX11_in := goodIn_r _ [11] (by decide +kernel) (by decide +kernel)
set_option maxRecDepth 20000 in
theorem gX11_comesSet_X11_in : GoodIn wsX11_comesSet (va_wsS RX11 81 yX11_in wsX11_in) := goodIn_app (goodIn_of _ (by decide +kernel)) ggX11_comesSet_X11_in
theorem dX11_comesSet_0 : decode cX11_comesSet 0 = .ok (.aload_n 0, 1) := by decide +kernel
theorem dX11_comesSet_1 : decode cX11_comesSet 1 = .ok (.getfield 22, 3) := by decide +kernel
theorem dX11_comesSet_4 : decode cX11_comesSet 4 = .ok (.iload_n 1, 1) := by decide +kernel
theorem dX11_comesSet_5 : decode cX11_comesSet 5 = .ok (.iload_n 2, 1) := by decide +kernel
theorem dX11_comesSet_6 : decode cX11_comesSet 6 = .ok (.iastore, 1) := by decide +kernel
theorem dX11_comesSet_7 : decode cX11_comesSet 7 = .ok (.iload_n 2, 1) := by decide +kernel
theorem dX11_comesSet_8 : decode cX11_comesSet 8 = .ok (.i2l, 1) := by decide +kernel
theorem dX11_comesSet_9 : decode cX11_comesSet 9 = .ok (.iload_n 1, 1) := by decide +kernel
theorem dX11_comesSet_10 : decode cX11_comesSet 10 = .ok (.invokestatic 159, 3) := by decide +kernel
theorem dX11_comesSet_13 : decode cX11_comesSet 13 = .ok (.i2l, 1) := by decide +kernel
theorem dX11_comesSet_14 : decode cX11_comesSet 14 = .ok (.iload_n 1, 1) := by decide +kernel
theorem dX11_comesSet_15 : decode cX11_comesSet 15 = .ok (.invokestatic 162, 3) := by decide +kernel
theorem dX11_comesSet_18 : decode cX11_comesSet 18 = .ok (.i2l, 1) := by decide +kernel
theorem dX11_comesSet_19 : decode cX11_comesSet 19 = .ok (.invokestatic 81, 3) := by decide +kernel
theorem dX11_comesSet_22 : decode cX11_comesSet 22 = .ok (.ireturn, 1) := by decide +kernel
/-! comesSet -/
def X11_comesSet (st : MS) (v1 : Int32) (v2 : Int32) : Option (Int32 × MS) :=
    inr v1 7 <|
    nm (sA st 4 v1.toNatClampNeg v2) fun st_2 =>
    bd1 (X11_leastOf v1) fun y_3 =>
    bd1 (X11_mostOf v1) fun y_5 =>
    bd1 (X11_in (v2.toInt64) (y_3.toInt64) (y_5.toInt64)) fun y_7 =>
    gz y_7 <|
    some (y_7, st_2)
abbrev rmX11_comesSet : Room := { frames := 1, cells := 0, slots := 0, locals := 25 }
theorem hdX11_comesSet : yX11_comesSet.cls = RX11 ∧ yX11_comesSet.cls ≠ "java/lang/invoke/MethodHandle" ∧ yX11_comesSet.cls ≠ "java/lang/invoke/VarHandle" ∧ (parseMethodDescriptor yX11_comesSet.desc).map (fun d => d.parameters.length) = some 2 := by decide +kernel
set_option maxRecDepth 100000 in
set_option maxHeartbeats 4000000 in
theorem okX11_comesSet (l : Launch) (D : va_G) (a : Nat → Nat) (T : mT3) {st : MS} {v1 : Int32} {v2 : Int32} {r : Int32} {st' : MS} (heq : X11_comesSet st v1 v2 = some (r, st')) : gCi l D (mT T) yX11_comesSet wsX11_comesSet rmX11_comesSet [.ref (a 0), .int v1, .int v2] (mW a T st) r (mW a T st') := by
  refine g_body_i (by decide) rfl (Nat.le_of_ble_eq_true rfl) (fun p e s m args below meth c A Q hx hb hml hown hts hK hA hret ls hP hD hS hl => ?_)
  have hl : lv_has ls 3 [(0, .ref (a 0)), (1, .int v1), (2, .int v2)] := hl
  have hin : ∀ w ∈ wsX110, w ∈ wsX11_comesSet := fun w h => List.mem_cons_of_mem _ (List.mem_append_right _ h)
  have f22 : (Cond.fieldLink RX11 22 RX11 (TX11 4).2.1 (TX11 4).2.2.1).before args s = true := hts (.fieldLink RX11 22 "LaidDownTheLaneModel" "settings" "[I") (by decide +kernel)
  obtain ⟨H, hH⟩ : ∃ H, H = s.heap := ⟨_, rfl⟩
  obtain ⟨locs, hlocs⟩ : ∃ z : List Loc, z = [] := ⟨_, rfl⟩
  have hS : va_S A s.heap H locs := by rw [hH, hlocs]; exact hS
  have hP : va_P D vwCl (mW a T st) H := by rw [hH]; exact hP
  suffices h9 : W p l e rmX11_comesSet s m args below meth c H locs 0 0 Q (F0 m 0 ls []) by rw [hH, hlocs] at h9; exact h9
  clear hH hlocs
  unfold X11_comesSet at heq
  refine lv_aload_n hx hb dX11_comesSet_0 rfl (lv_at hl 0 rfl) ?_
  refine mg (k := 4) (v := .ref (a 5)) hx hb hts hin hown hK hP (by decide) f22 rfl dX11_comesSet_1 rfl ?_
  refine lv_iload_n hx hb dX11_comesSet_4 rfl (lv_at hl 1 rfl) ?_
  refine lv_iload_n hx hb dX11_comesSet_5 rfl (lv_at hl 2 rfl) ?_
  obtain ⟨n_1, heq⟩ := inr_h heq
  refine mas (k := 4) (q := 5) (n := 7) hx hb hK hP hD hS rfl (maset_4 ..) n_1 dX11_comesSet_6 (fun H locs hP hD hS => ?_)
  obtain ⟨st_2, est_2⟩ : ∃ z, z = sA st 4 v1.toNatClampNeg v2 := ⟨_, rfl⟩
  rw [← est_2] at hP hD
  have heq := nm_h est_2 heq
  refine lv_iload_n hx hb dX11_comesSet_7 rfl (lv_at hl 2 rfl) ?_
  refine lv_i2l hx hb dX11_comesSet_8 rfl ?_
  refine lv_iload_n hx hb dX11_comesSet_9 rfl (lv_at hl 1 rfl) ?_
  obtain ⟨y_3, h_4, heq⟩ := bd1_h heq
  refine g_si (own := RX11) (D := D) (As := [.int v1]) (rest := [.long (v2.toInt64)]) hx hb hml hown hts (okX11_leastOf l D h_4) (cwS 1 hts gX11_comesSet_X11_leastOf rfl rfl rfl hdX11_leastOf ⟨Nat.le_of_ble_eq_true rfl, Nat.le_of_ble_eq_true rfl⟩) hK hA hP hS rfl hl.1 rfl (Nat.le_of_ble_eq_true rfl) dX11_comesSet_10 ⟨Nat.le_of_ble_eq_true rfl, Nat.le_of_ble_eq_true rfl⟩ (fun H locs hP hS => ?_)
  refine lv_i2l hx hb dX11_comesSet_13 rfl ?_
  refine lv_iload_n hx hb dX11_comesSet_14 rfl (lv_at hl 1 rfl) ?_
  obtain ⟨y_5, h_6, heq⟩ := bd1_h heq
  refine g_si (own := RX11) (D := D) (As := [.int v1]) (rest := [.long (y_3.toInt64), .long (v2.toInt64)]) hx hb hml hown hts (okX11_mostOf l D h_6) (cwS 1 hts gX11_comesSet_X11_mostOf rfl rfl rfl hdX11_mostOf ⟨Nat.le_of_ble_eq_true rfl, Nat.le_of_ble_eq_true rfl⟩) hK hA hP hS rfl hl.1 rfl (Nat.le_of_ble_eq_true rfl) dX11_comesSet_15 ⟨Nat.le_of_ble_eq_true rfl, Nat.le_of_ble_eq_true rfl⟩ (fun H locs hP hS => ?_)
  refine lv_i2l hx hb dX11_comesSet_18 rfl ?_
  obtain ⟨y_7, h_8, heq⟩ := bd1_h heq
  refine g_si (own := RX11) (D := D) (As := [.long (v2.toInt64), .long (y_3.toInt64), .long (y_5.toInt64)]) (rest := []) hx hb hml hown hts (okX11_in l D h_8) (cwS 3 hts gX11_comesSet_X11_in rfl rfl rfl hdX11_in ⟨Nat.le_of_ble_eq_true rfl, Nat.le_of_ble_eq_true rfl⟩) hK hA hP hS rfl hl.1 rfl (Nat.le_of_ble_eq_true rfl) dX11_comesSet_19 ⟨Nat.le_of_ble_eq_true rfl, Nat.le_of_ble_eq_true rfl⟩ (fun H locs hP hS => ?_)
  obtain ⟨n_9, _, heq⟩ := gz_h heq
  obtain ⟨heq, heq2⟩ := ret_h heq
  subst heq
  subst heq2
  exact hret 22 H locs ls hP hD hS n_9 dX11_comesSet_22
set_option maxRecDepth 20000 in
theorem ggX11_houseComes_X11_isSide : GoodIn wsX11_houseComes wsX11_isSide := goodIn_r _ [8, 9, 10, 11, 7, 12] (by decide +kernel) (by decide +kernel)
set_option maxRecDepth 20000 in
theorem gX11_houseComes_X11_isSide : GoodIn wsX11_houseComes (va_wsS RX11 165 yX11_isSide wsX11_isSide) := goodIn_app (goodIn_of _ (by decide +kernel)) ggX11_houseComes_X11_isSide
set_option maxRecDepth 20000 in
theorem ggX11_houseComes_X11_in : GoodIn wsX11_houseComes wsX11_in := goodIn_r _ [12] (by decide +kernel) (by decide +kernel)
set_option maxRecDepth 20000 in
theorem gX11_houseComes_X11_in : GoodIn wsX11_houseComes (va_wsS RX11 81 yX11_in wsX11_in) := goodIn_app (goodIn_of _ (by decide +kernel)) ggX11_houseComes_X11_in
theorem dX11_houseComes_0 : decode cX11_houseComes 0 = .ok (.iload_n 1, 1) := by decide +kernel
theorem dX11_houseComes_1 : decode cX11_houseComes 1 = .ok (.invokestatic 165, 3) := by decide +kernel
theorem dX11_houseComes_4 : decode cX11_houseComes 4 = .ok (.ifCond .eq 28, 3) := by decide +kernel
theorem dX11_houseComes_7 : decode cX11_houseComes 7 = .ok (.iload_n 2, 1) := by decide +kernel
theorem dX11_houseComes_8 : decode cX11_houseComes 8 = .ok (.i2l, 1) := by decide +kernel
theorem dX11_houseComes_9 : decode cX11_houseComes 9 = .ok (.lconst 0, 1) := by decide +kernel
theorem dX11_houseComes_10 : decode cX11_houseComes 10 = .ok (.ldc2_w 168, 3) := by decide +kernel
theorem dX11_houseComes_13 : decode cX11_houseComes 13 = .ok (.invokestatic 81, 3) := by decide +kernel
theorem dX11_houseComes_16 : decode cX11_houseComes 16 = .ok (.ifCond .eq 16, 3) := by decide +kernel
theorem dX11_houseComes_19 : decode cX11_houseComes 19 = .ok (.aload_n 0, 1) := by decide +kernel
theorem dX11_houseComes_20 : decode cX11_houseComes 20 = .ok (.getfield 170, 3) := by decide +kernel
theorem dX11_houseComes_23 : decode cX11_houseComes 23 = .ok (.bipush 6, 2) := by decide +kernel
theorem dX11_houseComes_25 : decode cX11_houseComes 25 = .ok (.if_icmp .ge 7, 3) := by decide +kernel
theorem dX11_houseComes_28 : decode cX11_houseComes 28 = .ok (.iconst 1, 1) := by decide +kernel
theorem dX11_houseComes_29 : decode cX11_houseComes 29 = .ok (.goto 4, 3) := by decide +kernel
theorem dX11_houseComes_32 : decode cX11_houseComes 32 = .ok (.iconst 0, 1) := by decide +kernel
theorem dX11_houseComes_33 : decode cX11_houseComes 33 = .ok (.istore_n 3, 1) := by decide +kernel
theorem dX11_houseComes_34 : decode cX11_houseComes 34 = .ok (.iload_n 3, 1) := by decide +kernel
theorem dX11_houseComes_35 : decode cX11_houseComes 35 = .ok (.ifCond .eq 33, 3) := by decide +kernel
theorem dX11_houseComes_38 : decode cX11_houseComes 38 = .ok (.aload_n 0, 1) := by decide +kernel
theorem dX11_houseComes_39 : decode cX11_houseComes 39 = .ok (.getfield 25, 3) := by decide +kernel
theorem dX11_houseComes_42 : decode cX11_houseComes 42 = .ok (.aload_n 0, 1) := by decide +kernel
theorem dX11_houseComes_43 : decode cX11_houseComes 43 = .ok (.getfield 170, 3) := by decide +kernel
theorem dX11_houseComes_46 : decode cX11_houseComes 46 = .ok (.iload_n 1, 1) := by decide +kernel
theorem dX11_houseComes_47 : decode cX11_houseComes 47 = .ok (.iastore, 1) := by decide +kernel
theorem dX11_houseComes_48 : decode cX11_houseComes 48 = .ok (.aload_n 0, 1) := by decide +kernel
theorem dX11_houseComes_49 : decode cX11_houseComes 49 = .ok (.getfield 28, 3) := by decide +kernel
theorem dX11_houseComes_52 : decode cX11_houseComes 52 = .ok (.aload_n 0, 1) := by decide +kernel
theorem dX11_houseComes_53 : decode cX11_houseComes 53 = .ok (.getfield 170, 3) := by decide +kernel
theorem dX11_houseComes_56 : decode cX11_houseComes 56 = .ok (.iload_n 2, 1) := by decide +kernel
theorem dX11_houseComes_57 : decode cX11_houseComes 57 = .ok (.iastore, 1) := by decide +kernel
theorem dX11_houseComes_58 : decode cX11_houseComes 58 = .ok (.aload_n 0, 1) := by decide +kernel
theorem dX11_houseComes_59 : decode cX11_houseComes 59 = .ok (.dup, 1) := by decide +kernel
theorem dX11_houseComes_60 : decode cX11_houseComes 60 = .ok (.getfield 170, 3) := by decide +kernel
theorem dX11_houseComes_63 : decode cX11_houseComes 63 = .ok (.iconst 1, 1) := by decide +kernel
theorem dX11_houseComes_64 : decode cX11_houseComes 64 = .ok (.iadd, 1) := by decide +kernel
theorem dX11_houseComes_65 : decode cX11_houseComes 65 = .ok (.putfield 170, 3) := by decide +kernel
theorem dX11_houseComes_68 : decode cX11_houseComes 68 = .ok (.iload_n 3, 1) := by decide +kernel
theorem dX11_houseComes_69 : decode cX11_houseComes 69 = .ok (.ireturn, 1) := by decide +kernel
/-! houseComes -/
def X11_houseComes_p68 (st : MS) (v3 : Int32) : Option (Int32 × MS) :=
    gz v3 <|
    some (v3, st)
def X11_houseComes_p33 (st : MS) (v1 : Int32) (v2 : Int32) (t0 : Int32) : Option (Int32 × MS) :=
    if t0 = 0 then
      (X11_houseComes_p68 st t0)
    else
    inr (gF st 8) 6 <|
    nm (sA st 9 (gF st 8).toNatClampNeg v1) fun st_4 =>
    inr (gF st_4 8) 6 <|
    nm (sA st_4 10 (gF st_4 8).toNatClampNeg v2) fun st_6 =>
    nm (sF st_6 8 ((gF st_6 8) + (1 : Int32))) fun st_7 =>
    X11_houseComes_p68 st_7 t0
def X11_houseComes_p32 (st : MS) (v1 : Int32) (v2 : Int32) : Option (Int32 × MS) :=
    X11_houseComes_p33 st v1 v2 (0 : Int32)
def X11_houseComes (st : MS) (v1 : Int32) (v2 : Int32) : Option (Int32 × MS) :=
    bd1 (X11_isSide v1) fun y_8 =>
    if y_8 = 0 then
      (X11_houseComes_p32 st v1 v2)
    else
    bd1 (X11_in (v2.toInt64) (0 : Int64) (240 : Int64)) fun y_11 =>
    if y_11 = 0 then
      (X11_houseComes_p32 st v1 v2)
    else
    if (6 : Int32) ≤ (gF st 8) then
      (X11_houseComes_p32 st v1 v2)
    else
    X11_houseComes_p33 st v1 v2 (1 : Int32)
abbrev rmX11_houseComes : Room := { frames := 2, cells := 0, slots := 0, locals := 45 }
theorem hdX11_houseComes : yX11_houseComes.cls = RX11 ∧ yX11_houseComes.cls ≠ "java/lang/invoke/MethodHandle" ∧ yX11_houseComes.cls ≠ "java/lang/invoke/VarHandle" ∧ (parseMethodDescriptor yX11_houseComes.desc).map (fun d => d.parameters.length) = some 2 := by decide +kernel
set_option maxRecDepth 100000 in
set_option maxHeartbeats 4000000 in
theorem okX11_houseComes (l : Launch) (D : va_G) (a : Nat → Nat) (T : mT3) {st : MS} {v1 : Int32} {v2 : Int32} {r : Int32} {st' : MS} (heq : X11_houseComes st v1 v2 = some (r, st')) : gCi l D (mT T) yX11_houseComes wsX11_houseComes rmX11_houseComes [.ref (a 0), .int v1, .int v2] (mW a T st) r (mW a T st') := by
  refine g_body_i (by decide) rfl (Nat.le_of_ble_eq_true rfl) (fun p e s m args below meth c A Q hx hb hml hown hts hK hA hret ls hP hD hS hl => ?_)
  have hl : lv_has ls 4 [(0, .ref (a 0)), (1, .int v1), (2, .int v2)] := hl
  have hin : ∀ w ∈ wsX110, w ∈ wsX11_houseComes := fun w h => List.mem_cons_of_mem _ (List.mem_append_right _ h)
  have f25 : (Cond.fieldLink RX11 25 RX11 (TX11 9).2.1 (TX11 9).2.2.1).before args s = true := hts (.fieldLink RX11 25 "LaidDownTheLaneModel" "sides" "[I") (by decide +kernel)
  have f28 : (Cond.fieldLink RX11 28 RX11 (TX11 10).2.1 (TX11 10).2.2.1).before args s = true := hts (.fieldLink RX11 28 "LaidDownTheLaneModel" "fars" "[I") (by decide +kernel)
  have f170 : (Cond.fieldLink RX11 170 RX11 (TX11 8).2.1 (TX11 8).2.2.1).before args s = true := hts (.fieldLink RX11 170 "LaidDownTheLaneModel" "houses" "I") (by decide +kernel)
  have c168 := hts (.constantLong RX11 168 (240)) (by decide +kernel)
  have b68 : ∀ (st : MS) (v3 : Int32) (H : Heap) (locs : List Loc) (ls : Array Slot), va_P D vwCl (mW a T st) H → va_D A (mW a T st) → va_S A s.heap H locs → lv_has ls 4 [(3, .int v3)] → X11_houseComes_p68  st v3 = some (r, st') → W p l e rmX11_houseComes s m args below meth c H locs 0 0 Q (F0 m 68 ls []) := by
    intro st v3 H locs ls hP hD hS hl heq
    unfold X11_houseComes_p68 at heq
    refine lv_iload_n hx hb dX11_houseComes_68 rfl (lv_at hl 0 rfl) ?_
    obtain ⟨n_1, _, heq⟩ := gz_h heq
    obtain ⟨heq, heq2⟩ := ret_h heq
    subst heq
    subst heq2
    exact hret 69 H locs ls hP hD hS n_1 dX11_houseComes_69
  have b33 : ∀ (st : MS) (v1 : Int32) (v2 : Int32) (t0 : Int32) (H : Heap) (locs : List Loc) (ls : Array Slot), va_P D vwCl (mW a T st) H → va_D A (mW a T st) → va_S A s.heap H locs → lv_has ls 4 [(0, .ref (a 0)), (1, .int v1), (2, .int v2)] → X11_houseComes_p33  st v1 v2 t0 = some (r, st') → W p l e rmX11_houseComes s m args below meth c H locs 0 0 Q (F0 m 33 ls [.int t0]) := by
    intro st v1 v2 t0 H locs ls hP hD hS hl heq
    unfold X11_houseComes_p33 at heq
    refine lv_istore_n (lv' := [(3, .int t0), (0, .ref (a 0)), (1, .int v1), (2, .int v2)]) hx hb dX11_houseComes_33 rfl hl (by decide) rfl (fun ls hl => ?_)
    refine lv_iload_n hx hb dX11_houseComes_34 rfl (lv_at hl 0 rfl) ?_
    refine lv_if_eq (tgt := 68) hx hb dX11_houseComes_35 (by decide) (fun c_2 => ?_) (fun c_2 => ?_)
    · have heq := it_t c_2 heq
      exact b68 st t0 H locs ls hP hD hS (lv_sub hl [0] rfl) heq
    have heq := it_f c_2 heq
    refine lv_aload_n hx hb dX11_houseComes_38 rfl (lv_at hl 1 rfl) ?_
    refine mg (k := 9) (v := .ref (a 6)) hx hb hts hin hown hK hP (by decide) f25 rfl dX11_houseComes_39 rfl ?_
    refine lv_aload_n hx hb dX11_houseComes_42 rfl (lv_at hl 1 rfl) ?_
    refine mg (k := 8) (v := .int (gF st 8)) hx hb hts hin hown hK hP (by decide) f170 rfl dX11_houseComes_43 rfl ?_
    refine lv_iload_n hx hb dX11_houseComes_46 rfl (lv_at hl 2 rfl) ?_
    obtain ⟨n_3, heq⟩ := inr_h heq
    refine mas (k := 9) (q := 6) (n := 6) hx hb hK hP hD hS rfl (maset_9 ..) n_3 dX11_houseComes_47 (fun H locs hP hD hS => ?_)
    obtain ⟨st_4, est_4⟩ : ∃ z, z = sA st 9 (gF st 8).toNatClampNeg v1 := ⟨_, rfl⟩
    rw [← est_4] at hP hD
    have heq := nm_h est_4 heq
    refine lv_aload_n hx hb dX11_houseComes_48 rfl (lv_at hl 1 rfl) ?_
    refine mg (k := 10) (v := .ref (a 7)) hx hb hts hin hown hK hP (by decide) f28 rfl dX11_houseComes_49 rfl ?_
    refine lv_aload_n hx hb dX11_houseComes_52 rfl (lv_at hl 1 rfl) ?_
    refine mg (k := 8) (v := .int (gF st_4 8)) hx hb hts hin hown hK hP (by decide) f170 rfl dX11_houseComes_53 rfl ?_
    refine lv_iload_n hx hb dX11_houseComes_56 rfl (lv_at hl 3 rfl) ?_
    obtain ⟨n_5, heq⟩ := inr_h heq
    refine mas (k := 10) (q := 7) (n := 6) hx hb hK hP hD hS rfl (maset_10 ..) n_5 dX11_houseComes_57 (fun H locs hP hD hS => ?_)
    obtain ⟨st_6, est_6⟩ : ∃ z, z = sA st_4 10 (gF st_4 8).toNatClampNeg v2 := ⟨_, rfl⟩
    rw [← est_6] at hP hD
    have heq := nm_h est_6 heq
    refine lv_aload_n hx hb dX11_houseComes_58 rfl (lv_at hl 1 rfl) ?_
    refine lv_dup hx hb dX11_houseComes_59 rfl ?_
    refine mg (k := 8) (v := .int (gF st_6 8)) hx hb hts hin hown hK hP (by decide) f170 rfl dX11_houseComes_60 rfl ?_
    refine lv_iconst (v := (1 : Int32)) hx hb dX11_houseComes_63 (by decide) ?_
    refine lv_iadd hx hb dX11_houseComes_64 ?_
    refine mp (k := 8) hx hb hts hin hown hK hP hD hS (by decide) f170 dX11_houseComes_65 rfl rfl rfl rfl (mset_8 ..) (fun H locs hP hD hS => ?_)
    obtain ⟨st_7, est_7⟩ : ∃ z, z = sF st_6 8 ((gF st_6 8) + (1 : Int32)) := ⟨_, rfl⟩
    rw [← est_7] at hP hD
    have heq := nm_h est_7 heq
    exact b68 st_7 t0 H locs ls hP hD hS (lv_sub hl [0] rfl) heq
  have b32 : ∀ (st : MS) (v1 : Int32) (v2 : Int32) (H : Heap) (locs : List Loc) (ls : Array Slot), va_P D vwCl (mW a T st) H → va_D A (mW a T st) → va_S A s.heap H locs → lv_has ls 4 [(0, .ref (a 0)), (1, .int v1), (2, .int v2)] → X11_houseComes_p32  st v1 v2 = some (r, st') → W p l e rmX11_houseComes s m args below meth c H locs 0 0 Q (F0 m 32 ls []) := by
    intro st v1 v2 H locs ls hP hD hS hl heq
    unfold X11_houseComes_p32 at heq
    refine lv_iconst (v := (0 : Int32)) hx hb dX11_houseComes_32 (by decide) ?_
    exact b33 st v1 v2 (0 : Int32) H locs ls hP hD hS (lv_sub hl [0, 1, 2] rfl) heq
  obtain ⟨H, hH⟩ : ∃ H, H = s.heap := ⟨_, rfl⟩
  obtain ⟨locs, hlocs⟩ : ∃ z : List Loc, z = [] := ⟨_, rfl⟩
  have hS : va_S A s.heap H locs := by rw [hH, hlocs]; exact hS
  have hP : va_P D vwCl (mW a T st) H := by rw [hH]; exact hP
  suffices h9 : W p l e rmX11_houseComes s m args below meth c H locs 0 0 Q (F0 m 0 ls []) by rw [hH, hlocs] at h9; exact h9
  clear hH hlocs
  unfold X11_houseComes at heq
  refine lv_iload_n hx hb dX11_houseComes_0 rfl (lv_at hl 1 rfl) ?_
  obtain ⟨y_8, h_9, heq⟩ := bd1_h heq
  refine g_si (own := RX11) (D := D) (As := [.int v1]) (rest := []) hx hb hml hown hts (okX11_isSide l D h_9) (cwS 1 hts gX11_houseComes_X11_isSide rfl rfl rfl hdX11_isSide ⟨Nat.le_of_ble_eq_true rfl, Nat.le_of_ble_eq_true rfl⟩) hK hA hP hS rfl hl.1 rfl (Nat.le_of_ble_eq_true rfl) dX11_houseComes_1 ⟨Nat.le_of_ble_eq_true rfl, Nat.le_of_ble_eq_true rfl⟩ (fun H locs hP hS => ?_)
  refine lv_if_eq (tgt := 32) hx hb dX11_houseComes_4 (by decide) (fun c_10 => ?_) (fun c_10 => ?_)
  · have heq := it_t c_10 heq
    exact b32 st v1 v2 H locs ls hP hD hS (lv_sub hl [0, 1, 2] rfl) heq
  have heq := it_f c_10 heq
  refine lv_iload_n hx hb dX11_houseComes_7 rfl (lv_at hl 2 rfl) ?_
  refine lv_i2l hx hb dX11_houseComes_8 rfl ?_
  refine lv_lconst (v := (0 : Int64)) hx hb dX11_houseComes_9 (by decide) ?_
  refine lv_ldc2 (v := (240 : Int64)) hx hb hown c168 dX11_houseComes_10 ?_
  obtain ⟨y_11, h_12, heq⟩ := bd1_h heq
  refine g_si (own := RX11) (D := D) (As := [.long (v2.toInt64), .long (0 : Int64), .long (240 : Int64)]) (rest := []) hx hb hml hown hts (okX11_in l D h_12) (cwS 3 hts gX11_houseComes_X11_in rfl rfl rfl hdX11_in ⟨Nat.le_of_ble_eq_true rfl, Nat.le_of_ble_eq_true rfl⟩) hK hA hP hS rfl hl.1 rfl (Nat.le_of_ble_eq_true rfl) dX11_houseComes_13 ⟨Nat.le_of_ble_eq_true rfl, Nat.le_of_ble_eq_true rfl⟩ (fun H locs hP hS => ?_)
  refine lv_if_eq (tgt := 32) hx hb dX11_houseComes_16 (by decide) (fun c_13 => ?_) (fun c_13 => ?_)
  · have heq := it_t c_13 heq
    exact b32 st v1 v2 H locs ls hP hD hS (lv_sub hl [0, 1, 2] rfl) heq
  have heq := it_f c_13 heq
  refine lv_aload_n hx hb dX11_houseComes_19 rfl (lv_at hl 0 rfl) ?_
  refine mg (k := 8) (v := .int (gF st 8)) hx hb hts hin hown hK hP (by decide) f170 rfl dX11_houseComes_20 rfl ?_
  refine lv_bipush (v := (6 : Int32)) hx hb dX11_houseComes_23 (by decide) ?_
  refine lv_icmp_ge (tgt := 32) hx hb dX11_houseComes_25 (by decide) (fun c_14 => ?_) (fun c_14 => ?_)
  · have heq := it_t c_14 heq
    exact b32 st v1 v2 H locs ls hP hD hS (lv_sub hl [0, 1, 2] rfl) heq
  have heq := it_f c_14 heq
  refine lv_iconst (v := (1 : Int32)) hx hb dX11_houseComes_28 (by decide) ?_
  refine lv_goto (tgt := 33) hx hb dX11_houseComes_29 (by decide) ?_
  exact b33 st v1 v2 (1 : Int32) H locs ls hP hD hS (lv_sub hl [0, 1, 2] rfl) heq
theorem dX11_cellComes_0 : decode cX11_cellComes 0 = .ok (.iload_n 1, 1) := by decide +kernel
theorem dX11_cellComes_1 : decode cX11_cellComes 1 = .ok (.bipush 12, 2) := by decide +kernel
theorem dX11_cellComes_3 : decode cX11_cellComes 3 = .ok (.if_icmp .ge 13, 3) := by decide +kernel
theorem dX11_cellComes_6 : decode cX11_cellComes 6 = .ok (.iload_n 2, 1) := by decide +kernel
theorem dX11_cellComes_7 : decode cX11_cellComes 7 = .ok (.bipush 8, 2) := by decide +kernel
theorem dX11_cellComes_9 : decode cX11_cellComes 9 = .ok (.if_icmp .ge 7, 3) := by decide +kernel
theorem dX11_cellComes_12 : decode cX11_cellComes 12 = .ok (.iconst 1, 1) := by decide +kernel
theorem dX11_cellComes_13 : decode cX11_cellComes 13 = .ok (.goto 4, 3) := by decide +kernel
theorem dX11_cellComes_16 : decode cX11_cellComes 16 = .ok (.iconst 0, 1) := by decide +kernel
theorem dX11_cellComes_17 : decode cX11_cellComes 17 = .ok (.istore 4, 2) := by decide +kernel
theorem dX11_cellComes_19 : decode cX11_cellComes 19 = .ok (.iload 4, 2) := by decide +kernel
theorem dX11_cellComes_21 : decode cX11_cellComes 21 = .ok (.ifCond .eq 17, 3) := by decide +kernel
theorem dX11_cellComes_24 : decode cX11_cellComes 24 = .ok (.aload_n 0, 1) := by decide +kernel
theorem dX11_cellComes_25 : decode cX11_cellComes 25 = .ok (.getfield 16, 3) := by decide +kernel
theorem dX11_cellComes_28 : decode cX11_cellComes 28 = .ok (.iload_n 1, 1) := by decide +kernel
theorem dX11_cellComes_29 : decode cX11_cellComes 29 = .ok (.iload_n 2, 1) := by decide +kernel
theorem dX11_cellComes_30 : decode cX11_cellComes 30 = .ok (.iastore, 1) := by decide +kernel
theorem dX11_cellComes_31 : decode cX11_cellComes 31 = .ok (.aload_n 0, 1) := by decide +kernel
theorem dX11_cellComes_32 : decode cX11_cellComes 32 = .ok (.getfield 19, 3) := by decide +kernel
theorem dX11_cellComes_35 : decode cX11_cellComes 35 = .ok (.iload_n 1, 1) := by decide +kernel
theorem dX11_cellComes_36 : decode cX11_cellComes 36 = .ok (.iload_n 3, 1) := by decide +kernel
theorem dX11_cellComes_37 : decode cX11_cellComes 37 = .ok (.iastore, 1) := by decide +kernel
theorem dX11_cellComes_38 : decode cX11_cellComes 38 = .ok (.iload 4, 2) := by decide +kernel
theorem dX11_cellComes_40 : decode cX11_cellComes 40 = .ok (.ireturn, 1) := by decide +kernel
/-! cellComes -/
def X11_cellComes_p38 (st : MS) (v4 : Int32) : Option (Int32 × MS) :=
    gz v4 <|
    some (v4, st)
def X11_cellComes_p17 (st : MS) (v1 : Int32) (v2 : Int32) (v3 : Int32) (t0 : Int32) : Option (Int32 × MS) :=
    if t0 = 0 then
      (X11_cellComes_p38 st t0)
    else
    inr v1 12 <|
    nm (sA st 2 v1.toNatClampNeg v2) fun st_4 =>
    inr v1 12 <|
    nm (sA st_4 3 v1.toNatClampNeg v3) fun st_6 =>
    X11_cellComes_p38 st_6 t0
def X11_cellComes_p16 (st : MS) (v1 : Int32) (v2 : Int32) (v3 : Int32) : Option (Int32 × MS) :=
    X11_cellComes_p17 st v1 v2 v3 (0 : Int32)
def X11_cellComes (st : MS) (v1 : Int32) (v2 : Int32) (v3 : Int32) : Option (Int32 × MS) :=
    if (12 : Int32) ≤ v1 then
      (X11_cellComes_p16 st v1 v2 v3)
    else
    if (8 : Int32) ≤ v2 then
      (X11_cellComes_p16 st v1 v2 v3)
    else
    X11_cellComes_p17 st v1 v2 v3 (1 : Int32)
abbrev rmX11_cellComes : Room := { frames := 0, cells := 0, slots := 0, locals := 0 }
theorem hdX11_cellComes : yX11_cellComes.cls = RX11 ∧ yX11_cellComes.cls ≠ "java/lang/invoke/MethodHandle" ∧ yX11_cellComes.cls ≠ "java/lang/invoke/VarHandle" ∧ (parseMethodDescriptor yX11_cellComes.desc).map (fun d => d.parameters.length) = some 3 := by decide +kernel
set_option maxRecDepth 100000 in
set_option maxHeartbeats 4000000 in
theorem okX11_cellComes (l : Launch) (D : va_G) (a : Nat → Nat) (T : mT3) {st : MS} {v1 : Int32} {v2 : Int32} {v3 : Int32} {r : Int32} {st' : MS} (heq : X11_cellComes st v1 v2 v3 = some (r, st')) : gCi l D (mT T) yX11_cellComes wsX11_cellComes rmX11_cellComes [.ref (a 0), .int v1, .int v2, .int v3] (mW a T st) r (mW a T st') := by
  refine g_body_i (by decide) rfl (Nat.le_of_ble_eq_true rfl) (fun p e s m args below meth c A Q hx hb hml hown hts hK hA hret ls hP hD hS hl => ?_)
  have hl : lv_has ls 5 [(0, .ref (a 0)), (1, .int v1), (2, .int v2), (3, .int v3)] := hl
  have hin : ∀ w ∈ wsX110, w ∈ wsX11_cellComes := fun w h => List.mem_cons_of_mem _ (List.mem_append_right _ h)
  have f16 : (Cond.fieldLink RX11 16 RX11 (TX11 2).2.1 (TX11 2).2.2.1).before args s = true := hts (.fieldLink RX11 16 "LaidDownTheLaneModel" "kinds" "[I") (by decide +kernel)
  have f19 : (Cond.fieldLink RX11 19 RX11 (TX11 3).2.1 (TX11 3).2.2.1).before args s = true := hts (.fieldLink RX11 19 "LaidDownTheLaneModel" "figures" "[I") (by decide +kernel)
  have b38 : ∀ (st : MS) (v4 : Int32) (H : Heap) (locs : List Loc) (ls : Array Slot), va_P D vwCl (mW a T st) H → va_D A (mW a T st) → va_S A s.heap H locs → lv_has ls 5 [(4, .int v4)] → X11_cellComes_p38  st v4 = some (r, st') → W p l e rmX11_cellComes s m args below meth c H locs 0 0 Q (F0 m 38 ls []) := by
    intro st v4 H locs ls hP hD hS hl heq
    unfold X11_cellComes_p38 at heq
    refine lv_iload hx hb dX11_cellComes_38 (lv_at hl 0 rfl) ?_
    obtain ⟨n_1, _, heq⟩ := gz_h heq
    obtain ⟨heq, heq2⟩ := ret_h heq
    subst heq
    subst heq2
    exact hret 40 H locs ls hP hD hS n_1 dX11_cellComes_40
  have b17 : ∀ (st : MS) (v1 : Int32) (v2 : Int32) (v3 : Int32) (t0 : Int32) (H : Heap) (locs : List Loc) (ls : Array Slot), va_P D vwCl (mW a T st) H → va_D A (mW a T st) → va_S A s.heap H locs → lv_has ls 5 [(0, .ref (a 0)), (1, .int v1), (2, .int v2), (3, .int v3)] → X11_cellComes_p17  st v1 v2 v3 t0 = some (r, st') → W p l e rmX11_cellComes s m args below meth c H locs 0 0 Q (F0 m 17 ls [.int t0]) := by
    intro st v1 v2 v3 t0 H locs ls hP hD hS hl heq
    unfold X11_cellComes_p17 at heq
    refine lv_istore (lv' := [(4, .int t0), (0, .ref (a 0)), (1, .int v1), (2, .int v2), (3, .int v3)]) hx hb dX11_cellComes_17 hl (by decide) rfl (fun ls hl => ?_)
    refine lv_iload hx hb dX11_cellComes_19 (lv_at hl 0 rfl) ?_
    refine lv_if_eq (tgt := 38) hx hb dX11_cellComes_21 (by decide) (fun c_2 => ?_) (fun c_2 => ?_)
    · have heq := it_t c_2 heq
      exact b38 st t0 H locs ls hP hD hS (lv_sub hl [0] rfl) heq
    have heq := it_f c_2 heq
    refine lv_aload_n hx hb dX11_cellComes_24 rfl (lv_at hl 1 rfl) ?_
    refine mg (k := 2) (v := .ref (a 3)) hx hb hts hin hown hK hP (by decide) f16 rfl dX11_cellComes_25 rfl ?_
    refine lv_iload_n hx hb dX11_cellComes_28 rfl (lv_at hl 2 rfl) ?_
    refine lv_iload_n hx hb dX11_cellComes_29 rfl (lv_at hl 3 rfl) ?_
    obtain ⟨n_3, heq⟩ := inr_h heq
    refine mas (k := 2) (q := 3) (n := 12) hx hb hK hP hD hS rfl (maset_2 ..) n_3 dX11_cellComes_30 (fun H locs hP hD hS => ?_)
    obtain ⟨st_4, est_4⟩ : ∃ z, z = sA st 2 v1.toNatClampNeg v2 := ⟨_, rfl⟩
    rw [← est_4] at hP hD
    have heq := nm_h est_4 heq
    refine lv_aload_n hx hb dX11_cellComes_31 rfl (lv_at hl 1 rfl) ?_
    refine mg (k := 3) (v := .ref (a 4)) hx hb hts hin hown hK hP (by decide) f19 rfl dX11_cellComes_32 rfl ?_
    refine lv_iload_n hx hb dX11_cellComes_35 rfl (lv_at hl 2 rfl) ?_
    refine lv_iload_n hx hb dX11_cellComes_36 rfl (lv_at hl 4 rfl) ?_
    obtain ⟨n_5, heq⟩ := inr_h heq
    refine mas (k := 3) (q := 4) (n := 12) hx hb hK hP hD hS rfl (maset_3 ..) n_5 dX11_cellComes_37 (fun H locs hP hD hS => ?_)
    obtain ⟨st_6, est_6⟩ : ∃ z, z = sA st_4 3 v1.toNatClampNeg v3 := ⟨_, rfl⟩
    rw [← est_6] at hP hD
    have heq := nm_h est_6 heq
    exact b38 st_6 t0 H locs ls hP hD hS (lv_sub hl [0] rfl) heq
  have b16 : ∀ (st : MS) (v1 : Int32) (v2 : Int32) (v3 : Int32) (H : Heap) (locs : List Loc) (ls : Array Slot), va_P D vwCl (mW a T st) H → va_D A (mW a T st) → va_S A s.heap H locs → lv_has ls 5 [(0, .ref (a 0)), (1, .int v1), (2, .int v2), (3, .int v3)] → X11_cellComes_p16  st v1 v2 v3 = some (r, st') → W p l e rmX11_cellComes s m args below meth c H locs 0 0 Q (F0 m 16 ls []) := by
    intro st v1 v2 v3 H locs ls hP hD hS hl heq
    unfold X11_cellComes_p16 at heq
    refine lv_iconst (v := (0 : Int32)) hx hb dX11_cellComes_16 (by decide) ?_
    exact b17 st v1 v2 v3 (0 : Int32) H locs ls hP hD hS (lv_sub hl [0, 1, 2, 3] rfl) heq
  obtain ⟨H, hH⟩ : ∃ H, H = s.heap := ⟨_, rfl⟩
  obtain ⟨locs, hlocs⟩ : ∃ z : List Loc, z = [] := ⟨_, rfl⟩
  have hS : va_S A s.heap H locs := by rw [hH, hlocs]; exact hS
  have hP : va_P D vwCl (mW a T st) H := by rw [hH]; exact hP
  suffices h9 : W p l e rmX11_cellComes s m args below meth c H locs 0 0 Q (F0 m 0 ls []) by rw [hH, hlocs] at h9; exact h9
  clear hH hlocs
  unfold X11_cellComes at heq
  refine lv_iload_n hx hb dX11_cellComes_0 rfl (lv_at hl 1 rfl) ?_
  refine lv_bipush (v := (12 : Int32)) hx hb dX11_cellComes_1 (by decide) ?_
  refine lv_icmp_ge (tgt := 16) hx hb dX11_cellComes_3 (by decide) (fun c_7 => ?_) (fun c_7 => ?_)
  · have heq := it_t c_7 heq
    exact b16 st v1 v2 v3 H locs ls hP hD hS (lv_sub hl [0, 1, 2, 3] rfl) heq
  have heq := it_f c_7 heq
  refine lv_iload_n hx hb dX11_cellComes_6 rfl (lv_at hl 2 rfl) ?_
  refine lv_bipush (v := (8 : Int32)) hx hb dX11_cellComes_7 (by decide) ?_
  refine lv_icmp_ge (tgt := 16) hx hb dX11_cellComes_9 (by decide) (fun c_8 => ?_) (fun c_8 => ?_)
  · have heq := it_t c_8 heq
    exact b16 st v1 v2 v3 H locs ls hP hD hS (lv_sub hl [0, 1, 2, 3] rfl) heq
  have heq := it_f c_8 heq
  refine lv_iconst (v := (1 : Int32)) hx hb dX11_cellComes_12 (by decide) ?_
  refine lv_goto (tgt := 17) hx hb dX11_cellComes_13 (by decide) ?_
  exact b17 st v1 v2 v3 (1 : Int32) H locs ls hP hD hS (lv_sub hl [0, 1, 2, 3] rfl) heq
set_option maxRecDepth 20000 in
theorem ggX11_goMinutes_X11_settle : GoodIn wsX11_goMinutes wsX11_settle := goodIn_r _ [7, 1, 8, 9, 10, 6, 11, 12, 13, 14, 15, 16, 17, 18, 19, 20, 21, 22, 23, 24, 25, 26, 27, 28, 29, 30, 31, 32, 33, 34, 35, 36, 37, 38, 39, 40, 41, 42, 43, 2, 44, 45, 46, 47, 48, 49, 50, 51, 52, 53, 54, 55, 56, 57, 58, 59, 60, 61, 62, 63, 64, 65, 66, 67, 68, 69, 70, 71, 72, 73, 74, 75, 76, 77, 78, 79, 80, 81, 82, 83, 84, 85, 86, 87, 88, 89, 90, 91] (by decide +kernel) (by decide +kernel)
set_option maxRecDepth 20000 in
theorem gX11_goMinutes_X11_settle : GoodIn wsX11_goMinutes (wsV RX11 173 RX11 yX11_settle wsX11_settle) := goodIn_app (goodIn_of _ (by decide +kernel)) ggX11_goMinutes_X11_settle
theorem dX11_goMinutes_0 : decode cX11_goMinutes 0 = .ok (.iconst 0, 1) := by decide +kernel
theorem dX11_goMinutes_1 : decode cX11_goMinutes 1 = .ok (.istore_n 2, 1) := by decide +kernel
theorem dX11_goMinutes_2 : decode cX11_goMinutes 2 = .ok (.iload_n 2, 1) := by decide +kernel
theorem dX11_goMinutes_3 : decode cX11_goMinutes 3 = .ok (.iload_n 1, 1) := by decide +kernel
theorem dX11_goMinutes_4 : decode cX11_goMinutes 4 = .ok (.if_icmp .ge 30, 3) := by decide +kernel
theorem dX11_goMinutes_7 : decode cX11_goMinutes 7 = .ok (.aload_n 0, 1) := by decide +kernel
theorem dX11_goMinutes_8 : decode cX11_goMinutes 8 = .ok (.getfield 122, 3) := by decide +kernel
theorem dX11_goMinutes_11 : decode cX11_goMinutes 11 = .ok (.ifCond .ne 23, 3) := by decide +kernel
theorem dX11_goMinutes_14 : decode cX11_goMinutes 14 = .ok (.aload_n 0, 1) := by decide +kernel
theorem dX11_goMinutes_15 : decode cX11_goMinutes 15 = .ok (.dup, 1) := by decide +kernel
theorem dX11_goMinutes_16 : decode cX11_goMinutes 16 = .ok (.getfield 93, 3) := by decide +kernel
theorem dX11_goMinutes_19 : decode cX11_goMinutes 19 = .ok (.iconst 1, 1) := by decide +kernel
theorem dX11_goMinutes_20 : decode cX11_goMinutes 20 = .ok (.iadd, 1) := by decide +kernel
theorem dX11_goMinutes_21 : decode cX11_goMinutes 21 = .ok (.putfield 93, 3) := by decide +kernel
theorem dX11_goMinutes_24 : decode cX11_goMinutes 24 = .ok (.aload_n 0, 1) := by decide +kernel
theorem dX11_goMinutes_25 : decode cX11_goMinutes 25 = .ok (.invokevirtual 173, 3) := by decide +kernel
theorem dX11_goMinutes_28 : decode cX11_goMinutes 28 = .ok (.iinc 2 1, 3) := by decide +kernel
theorem dX11_goMinutes_31 : decode cX11_goMinutes 31 = .ok (.goto (-29), 3) := by decide +kernel
theorem dX11_goMinutes_34 : decode cX11_goMinutes 34 = .ok (.return_, 1) := by decide +kernel
/-! goMinutes -/
def X11_goMinutes_p34 (st : MS) : Option (Unit × MS) :=
    some ((), st)
def X11_goMinutes_p2 : Nat → MS → Int32 → Int32 → Option (Unit × MS)
  | 0, _, _, _ => none
  | n + 1, st, v1, v2 =>
    if v1 ≤ v2 then
      (X11_goMinutes_p34 st)
    else
    if (gF st 7) = 0 then
      (nm (sF st 6 ((gF st 6) + (1 : Int32))) fun st_3 =>
      bnd (X11_settle st_3) fun _ st_4 =>
      nm (v2 + (1 : Int32)) fun x_6 =>
      X11_goMinutes_p2  n st_4 v1 x_6)
    else
    X11_goMinutes_p34 st
theorem X11_goMinutes_p2_s (n : Nat) (st : MS) (v1 : Int32) (v2 : Int32) : X11_goMinutes_p2  (n + 1) st v1 v2 =
    (if v1 ≤ v2 then
      (X11_goMinutes_p34 st)
    else
    if (gF st 7) = 0 then
      (nm (sF st 6 ((gF st 6) + (1 : Int32))) fun st_3 =>
      bnd (X11_settle st_3) fun _ st_4 =>
      nm (v2 + (1 : Int32)) fun x_6 =>
      X11_goMinutes_p2  n st_4 v1 x_6)
    else
    X11_goMinutes_p34 st) := rfl
def X11_goMinutes (st : MS) (v1 : Int32) : Option (Unit × MS) :=
    X11_goMinutes_p2 5000 st v1 (0 : Int32)
abbrev rmX11_goMinutes : Room := { frames := 8, cells := 0, slots := 0, locals := 171 }
theorem hdX11_goMinutes : yX11_goMinutes.cls = RX11 ∧ yX11_goMinutes.cls ≠ "java/lang/invoke/MethodHandle" ∧ yX11_goMinutes.cls ≠ "java/lang/invoke/VarHandle" ∧ (parseMethodDescriptor yX11_goMinutes.desc).map (fun d => d.parameters.length) = some 1 := by decide +kernel
set_option maxRecDepth 100000 in
set_option maxHeartbeats 4000000 in
theorem okX11_goMinutes (l : Launch) (D : va_G) (a : Nat → Nat) (T : mT3) {st : MS} {v1 : Int32} {st' : MS} (heq : X11_goMinutes st v1 = some ((), st')) : gCv l D (mT T) yX11_goMinutes wsX11_goMinutes rmX11_goMinutes [.ref (a 0), .int v1] (mW a T st) (mW a T st') := by
  refine g_body_v (by decide) rfl (Nat.le_of_ble_eq_true rfl) (fun p e s m args below meth c A Q hx hb hml hown hts hK hA _ hret ls hP hD hS hl => ?_)
  have hl : lv_has ls 3 [(0, .ref (a 0)), (1, .int v1)] := hl
  have hin : ∀ w ∈ wsX110, w ∈ wsX11_goMinutes := fun w h => List.mem_cons_of_mem _ (List.mem_append_right _ h)
  have f93 : (Cond.fieldLink RX11 93 RX11 (TX11 6).2.1 (TX11 6).2.2.1).before args s = true := hts (.fieldLink RX11 93 "LaidDownTheLaneModel" "minute" "I") (by decide +kernel)
  have f122 : (Cond.fieldLink RX11 122 RX11 (TX11 7).2.1 (TX11 7).2.2.1).before args s = true := hts (.fieldLink RX11 122 "LaidDownTheLaneModel" "isDown" "Z") (by decide +kernel)
  have b34 : ∀ (st : MS) (H : Heap) (locs : List Loc) (ls : Array Slot), va_P D vwCl (mW a T st) H → va_D A (mW a T st) → va_S A s.heap H locs → lv_has ls 3 [] → X11_goMinutes_p34  st = some ((), st') → W p l e rmX11_goMinutes s m args below meth c H locs 0 0 Q (F0 m 34 ls []) := by
    intro st H locs ls hP hD hS hl heq
    unfold X11_goMinutes_p34 at heq
    obtain ⟨-, heq2⟩ := ret_h heq
    subst heq2
    exact hret 34 H locs ls hP hD hS dX11_goMinutes_34
  have b2 : ∀ (n : Nat), ∀ (st : MS) (v1 : Int32) (v2 : Int32) (H : Heap) (locs : List Loc) (ls : Array Slot), va_P D vwCl (mW a T st) H → va_D A (mW a T st) → va_S A s.heap H locs → lv_has ls 3 [(0, .ref (a 0)), (1, .int v1), (2, .int v2)] → X11_goMinutes_p2  n st v1 v2 = some ((), st') → W p l e rmX11_goMinutes s m args below meth c H locs 0 0 Q (F0 m 2 ls []) := by
    intro n
    induction n with
    | zero => intro st v1 v2 H locs ls hP hD hS hl heq; cases heq
    | succ n ih =>
      intro st v1 v2 H locs ls hP hD hS hl heq
      rw [X11_goMinutes_p2_s] at heq
      refine lv_iload_n hx hb dX11_goMinutes_2 rfl (lv_at hl 2 rfl) ?_
      refine lv_iload_n hx hb dX11_goMinutes_3 rfl (lv_at hl 1 rfl) ?_
      refine lv_icmp_ge (tgt := 34) hx hb dX11_goMinutes_4 (by decide) (fun c_1 => ?_) (fun c_1 => ?_)
      · have heq := it_t c_1 heq
        exact b34 st H locs ls hP hD hS (lv_sub hl [] rfl) heq
      have heq := it_f c_1 heq
      refine lv_aload_n hx hb dX11_goMinutes_7 rfl (lv_at hl 0 rfl) ?_
      refine mg (k := 7) (v := .int (gF st 7)) hx hb hts hin hown hK hP (by decide) f122 rfl dX11_goMinutes_8 rfl ?_
      refine lv_if_ne (tgt := 34) hx hb dX11_goMinutes_11 (by decide) (fun c_2 => ?_) (fun c_2 => ?_)
      · have heq := it_f c_2 heq
        exact b34 st H locs ls hP hD hS (lv_sub hl [] rfl) heq
      have heq := it_t c_2 heq
      refine lv_aload_n hx hb dX11_goMinutes_14 rfl (lv_at hl 0 rfl) ?_
      refine lv_dup hx hb dX11_goMinutes_15 rfl ?_
      refine mg (k := 6) (v := .int (gF st 6)) hx hb hts hin hown hK hP (by decide) f93 rfl dX11_goMinutes_16 rfl ?_
      refine lv_iconst (v := (1 : Int32)) hx hb dX11_goMinutes_19 (by decide) ?_
      refine lv_iadd hx hb dX11_goMinutes_20 ?_
      refine mp (k := 6) hx hb hts hin hown hK hP hD hS (by decide) f93 dX11_goMinutes_21 rfl rfl rfl rfl (mset_6 ..) (fun H locs hP hD hS => ?_)
      obtain ⟨st_3, est_3⟩ : ∃ z, z = sF st 6 ((gF st 6) + (1 : Int32)) := ⟨_, rfl⟩
      rw [← est_3] at hP hD
      have heq := nm_h est_3 heq
      refine lv_aload_n hx hb dX11_goMinutes_24 rfl (lv_at hl 0 rfl) ?_
      obtain ⟨⟨⟩, st_4, h_5, heq⟩ := bnd_h heq
      refine g_vv (own := RX11) (As := []) (rest := []) hx hb hml hown hts (okX11_settle l D a T h_5) (cwV 0 hts gX11_goMinutes_X11_settle rfl rfl rfl hdX11_settle ⟨Nat.le_of_ble_eq_true rfl, Nat.le_of_ble_eq_true rfl⟩) hK hA hP hD hS (ci := 11) (q0 := 0) rfl rfl rfl hl.1 rfl (Nat.le_of_ble_eq_true rfl) dX11_goMinutes_25 ⟨Nat.le_of_ble_eq_true rfl, Nat.le_of_ble_eq_true rfl⟩ (fun H locs hP hD hS => ?_)
      obtain ⟨x_6, ex_6⟩ : ∃ y : Int32, y = v2 + (1 : Int32) := ⟨_, rfl⟩
      have heq := nm_h ex_6 heq
      refine lv_iinc (v := x_6) (lv' := [(2, .int x_6), (0, .ref (a 0)), (1, .int v1)]) hx hb dX11_goMinutes_28 hl (k := 2) rfl (by rw [ex_6]; rfl) (by decide) rfl (fun ls hl => ?_)
      refine lv_goto (tgt := 2) hx hb dX11_goMinutes_31 (by decide) ?_
      exact ih st_4 v1 x_6 H locs ls hP hD hS (lv_sub hl [1, 2, 0] rfl) heq
  obtain ⟨H, hH⟩ : ∃ H, H = s.heap := ⟨_, rfl⟩
  obtain ⟨locs, hlocs⟩ : ∃ z : List Loc, z = [] := ⟨_, rfl⟩
  have hS : va_S A s.heap H locs := by rw [hH, hlocs]; exact hS
  have hP : va_P D vwCl (mW a T st) H := by rw [hH]; exact hP
  suffices h9 : W p l e rmX11_goMinutes s m args below meth c H locs 0 0 Q (F0 m 0 ls []) by rw [hH, hlocs] at h9; exact h9
  clear hH hlocs
  unfold X11_goMinutes at heq
  refine lv_iconst (v := (0 : Int32)) hx hb dX11_goMinutes_0 (by decide) ?_
  refine lv_istore_n (lv' := [(2, .int (0 : Int32)), (0, .ref (a 0)), (1, .int v1)]) hx hb dX11_goMinutes_1 rfl hl (by decide) rfl (fun ls hl => ?_)
  exact b2 5000 st v1 (0 : Int32) H locs ls hP hD hS (lv_sub hl [1, 2, 0] rfl) heq
set_option maxRecDepth 20000 in
theorem ggX11_minutesCome_X11_goMinutes : GoodIn wsX11_minutesCome wsX11_goMinutes := goodIn_r _ [7, 8, 2, 9, 10, 11, 6, 12, 13, 14, 15, 16, 17, 18, 19, 20, 21, 22, 23, 24, 25, 26, 27, 28, 29, 30, 31, 32, 33, 34, 35, 36, 37, 38, 39, 40, 41, 42, 43, 44, 45, 46, 47, 1, 48, 49, 50, 51, 52, 53, 54, 55, 56, 57, 58, 59, 60, 61, 62, 63, 64, 65, 66, 67, 68, 69, 70, 71, 72, 73, 74, 75, 76, 77, 78, 79, 80, 81, 82, 83, 84, 85, 86, 87, 88, 89, 90, 91, 92, 93, 94, 95] (by decide +kernel) (by decide +kernel)
set_option maxRecDepth 20000 in
theorem gX11_minutesCome_X11_goMinutes : GoodIn wsX11_minutesCome (wsV RX11 176 RX11 yX11_goMinutes wsX11_goMinutes) := goodIn_app (goodIn_of _ (by decide +kernel)) ggX11_minutesCome_X11_goMinutes
theorem dX11_minutesCome_0 : decode cX11_minutesCome 0 = .ok (.aload_n 0, 1) := by decide +kernel
theorem dX11_minutesCome_1 : decode cX11_minutesCome 1 = .ok (.getfield 89, 3) := by decide +kernel
theorem dX11_minutesCome_4 : decode cX11_minutesCome 4 = .ok (.ifCond .eq 23, 3) := by decide +kernel
theorem dX11_minutesCome_7 : decode cX11_minutesCome 7 = .ok (.iload_n 1, 1) := by decide +kernel
theorem dX11_minutesCome_8 : decode cX11_minutesCome 8 = .ok (.ifCond .le 19, 3) := by decide +kernel
theorem dX11_minutesCome_11 : decode cX11_minutesCome 11 = .ok (.aload_n 0, 1) := by decide +kernel
theorem dX11_minutesCome_12 : decode cX11_minutesCome 12 = .ok (.getfield 93, 3) := by decide +kernel
theorem dX11_minutesCome_15 : decode cX11_minutesCome 15 = .ok (.iload_n 1, 1) := by decide +kernel
theorem dX11_minutesCome_16 : decode cX11_minutesCome 16 = .ok (.iadd, 1) := by decide +kernel
theorem dX11_minutesCome_17 : decode cX11_minutesCome 17 = .ok (.sipush 999, 3) := by decide +kernel
theorem dX11_minutesCome_20 : decode cX11_minutesCome 20 = .ok (.if_icmp .gt 7, 3) := by decide +kernel
theorem dX11_minutesCome_23 : decode cX11_minutesCome 23 = .ok (.iconst 1, 1) := by decide +kernel
theorem dX11_minutesCome_24 : decode cX11_minutesCome 24 = .ok (.goto 4, 3) := by decide +kernel
theorem dX11_minutesCome_27 : decode cX11_minutesCome 27 = .ok (.iconst 0, 1) := by decide +kernel
theorem dX11_minutesCome_28 : decode cX11_minutesCome 28 = .ok (.istore_n 2, 1) := by decide +kernel
theorem dX11_minutesCome_29 : decode cX11_minutesCome 29 = .ok (.iload_n 2, 1) := by decide +kernel
theorem dX11_minutesCome_30 : decode cX11_minutesCome 30 = .ok (.ifCond .eq 8, 3) := by decide +kernel
theorem dX11_minutesCome_33 : decode cX11_minutesCome 33 = .ok (.aload_n 0, 1) := by decide +kernel
theorem dX11_minutesCome_34 : decode cX11_minutesCome 34 = .ok (.iload_n 1, 1) := by decide +kernel
theorem dX11_minutesCome_35 : decode cX11_minutesCome 35 = .ok (.invokevirtual 176, 3) := by decide +kernel
theorem dX11_minutesCome_38 : decode cX11_minutesCome 38 = .ok (.iload_n 2, 1) := by decide +kernel
theorem dX11_minutesCome_39 : decode cX11_minutesCome 39 = .ok (.ireturn, 1) := by decide +kernel
/-! minutesCome -/
def X11_minutesCome_p38 (st : MS) (v2 : Int32) : Option (Int32 × MS) :=
    gz v2 <|
    some (v2, st)
def X11_minutesCome_p28 (st : MS) (v1 : Int32) (t0 : Int32) : Option (Int32 × MS) :=
    if t0 = 0 then
      (X11_minutesCome_p38 st t0)
    else
    bnd (X11_goMinutes st v1) fun _ st_3 =>
    X11_minutesCome_p38 st_3 t0
def X11_minutesCome_p27 (st : MS) (v1 : Int32) : Option (Int32 × MS) :=
    X11_minutesCome_p28 st v1 (0 : Int32)
def X11_minutesCome (st : MS) (v1 : Int32) : Option (Int32 × MS) :=
    if (gF st 5) = 0 then
      (X11_minutesCome_p27 st v1)
    else
    if v1 ≤ 0 then
      (X11_minutesCome_p27 st v1)
    else
    if (999 : Int32) < ((gF st 6) + v1) then
      (X11_minutesCome_p27 st v1)
    else
    X11_minutesCome_p28 st v1 (1 : Int32)
abbrev rmX11_minutesCome : Room := { frames := 9, cells := 0, slots := 0, locals := 193 }
theorem hdX11_minutesCome : yX11_minutesCome.cls = RX11 ∧ yX11_minutesCome.cls ≠ "java/lang/invoke/MethodHandle" ∧ yX11_minutesCome.cls ≠ "java/lang/invoke/VarHandle" ∧ (parseMethodDescriptor yX11_minutesCome.desc).map (fun d => d.parameters.length) = some 1 := by decide +kernel
set_option maxRecDepth 100000 in
set_option maxHeartbeats 4000000 in
theorem okX11_minutesCome (l : Launch) (D : va_G) (a : Nat → Nat) (T : mT3) {st : MS} {v1 : Int32} {r : Int32} {st' : MS} (heq : X11_minutesCome st v1 = some (r, st')) : gCi l D (mT T) yX11_minutesCome wsX11_minutesCome rmX11_minutesCome [.ref (a 0), .int v1] (mW a T st) r (mW a T st') := by
  refine g_body_i (by decide) rfl (Nat.le_of_ble_eq_true rfl) (fun p e s m args below meth c A Q hx hb hml hown hts hK hA hret ls hP hD hS hl => ?_)
  have hl : lv_has ls 3 [(0, .ref (a 0)), (1, .int v1)] := hl
  have hin : ∀ w ∈ wsX110, w ∈ wsX11_minutesCome := fun w h => List.mem_cons_of_mem _ (List.mem_append_right _ h)
  have f89 : (Cond.fieldLink RX11 89 RX11 (TX11 5).2.1 (TX11 5).2.2.1).before args s = true := hts (.fieldLink RX11 89 "LaidDownTheLaneModel" "isLit" "Z") (by decide +kernel)
  have f93 : (Cond.fieldLink RX11 93 RX11 (TX11 6).2.1 (TX11 6).2.2.1).before args s = true := hts (.fieldLink RX11 93 "LaidDownTheLaneModel" "minute" "I") (by decide +kernel)
  have b38 : ∀ (st : MS) (v2 : Int32) (H : Heap) (locs : List Loc) (ls : Array Slot), va_P D vwCl (mW a T st) H → va_D A (mW a T st) → va_S A s.heap H locs → lv_has ls 3 [(2, .int v2)] → X11_minutesCome_p38  st v2 = some (r, st') → W p l e rmX11_minutesCome s m args below meth c H locs 0 0 Q (F0 m 38 ls []) := by
    intro st v2 H locs ls hP hD hS hl heq
    unfold X11_minutesCome_p38 at heq
    refine lv_iload_n hx hb dX11_minutesCome_38 rfl (lv_at hl 0 rfl) ?_
    obtain ⟨n_1, _, heq⟩ := gz_h heq
    obtain ⟨heq, heq2⟩ := ret_h heq
    subst heq
    subst heq2
    exact hret 39 H locs ls hP hD hS n_1 dX11_minutesCome_39
  have b28 : ∀ (st : MS) (v1 : Int32) (t0 : Int32) (H : Heap) (locs : List Loc) (ls : Array Slot), va_P D vwCl (mW a T st) H → va_D A (mW a T st) → va_S A s.heap H locs → lv_has ls 3 [(0, .ref (a 0)), (1, .int v1)] → X11_minutesCome_p28  st v1 t0 = some (r, st') → W p l e rmX11_minutesCome s m args below meth c H locs 0 0 Q (F0 m 28 ls [.int t0]) := by
    intro st v1 t0 H locs ls hP hD hS hl heq
    unfold X11_minutesCome_p28 at heq
    refine lv_istore_n (lv' := [(2, .int t0), (0, .ref (a 0)), (1, .int v1)]) hx hb dX11_minutesCome_28 rfl hl (by decide) rfl (fun ls hl => ?_)
    refine lv_iload_n hx hb dX11_minutesCome_29 rfl (lv_at hl 0 rfl) ?_
    refine lv_if_eq (tgt := 38) hx hb dX11_minutesCome_30 (by decide) (fun c_2 => ?_) (fun c_2 => ?_)
    · have heq := it_t c_2 heq
      exact b38 st t0 H locs ls hP hD hS (lv_sub hl [0] rfl) heq
    have heq := it_f c_2 heq
    refine lv_aload_n hx hb dX11_minutesCome_33 rfl (lv_at hl 1 rfl) ?_
    refine lv_iload_n hx hb dX11_minutesCome_34 rfl (lv_at hl 2 rfl) ?_
    obtain ⟨⟨⟩, st_3, h_4, heq⟩ := bnd_h heq
    refine g_vv (own := RX11) (As := [.int v1]) (rest := []) hx hb hml hown hts (okX11_goMinutes l D a T h_4) (cwV 1 hts gX11_minutesCome_X11_goMinutes rfl rfl rfl hdX11_goMinutes ⟨Nat.le_of_ble_eq_true rfl, Nat.le_of_ble_eq_true rfl⟩) hK hA hP hD hS (ci := 11) (q0 := 0) rfl rfl rfl hl.1 rfl (Nat.le_of_ble_eq_true rfl) dX11_minutesCome_35 ⟨Nat.le_of_ble_eq_true rfl, Nat.le_of_ble_eq_true rfl⟩ (fun H locs hP hD hS => ?_)
    exact b38 st_3 t0 H locs ls hP hD hS (lv_sub hl [0] rfl) heq
  have b27 : ∀ (st : MS) (v1 : Int32) (H : Heap) (locs : List Loc) (ls : Array Slot), va_P D vwCl (mW a T st) H → va_D A (mW a T st) → va_S A s.heap H locs → lv_has ls 3 [(0, .ref (a 0)), (1, .int v1)] → X11_minutesCome_p27  st v1 = some (r, st') → W p l e rmX11_minutesCome s m args below meth c H locs 0 0 Q (F0 m 27 ls []) := by
    intro st v1 H locs ls hP hD hS hl heq
    unfold X11_minutesCome_p27 at heq
    refine lv_iconst (v := (0 : Int32)) hx hb dX11_minutesCome_27 (by decide) ?_
    exact b28 st v1 (0 : Int32) H locs ls hP hD hS (lv_sub hl [0, 1] rfl) heq
  obtain ⟨H, hH⟩ : ∃ H, H = s.heap := ⟨_, rfl⟩
  obtain ⟨locs, hlocs⟩ : ∃ z : List Loc, z = [] := ⟨_, rfl⟩
  have hS : va_S A s.heap H locs := by rw [hH, hlocs]; exact hS
  have hP : va_P D vwCl (mW a T st) H := by rw [hH]; exact hP
  suffices h9 : W p l e rmX11_minutesCome s m args below meth c H locs 0 0 Q (F0 m 0 ls []) by rw [hH, hlocs] at h9; exact h9
  clear hH hlocs
  unfold X11_minutesCome at heq
  refine lv_aload_n hx hb dX11_minutesCome_0 rfl (lv_at hl 0 rfl) ?_
  refine mg (k := 5) (v := .int (gF st 5)) hx hb hts hin hown hK hP (by decide) f89 rfl dX11_minutesCome_1 rfl ?_
  refine lv_if_eq (tgt := 27) hx hb dX11_minutesCome_4 (by decide) (fun c_5 => ?_) (fun c_5 => ?_)
  · have heq := it_t c_5 heq
    exact b27 st v1 H locs ls hP hD hS (lv_sub hl [0, 1] rfl) heq
  have heq := it_f c_5 heq
  refine lv_iload_n hx hb dX11_minutesCome_7 rfl (lv_at hl 1 rfl) ?_
  refine lv_if_le (tgt := 27) hx hb dX11_minutesCome_8 (by decide) (fun c_6 => ?_) (fun c_6 => ?_)
  · have heq := it_t c_6 heq
    exact b27 st v1 H locs ls hP hD hS (lv_sub hl [0, 1] rfl) heq
  have heq := it_f c_6 heq
  refine lv_aload_n hx hb dX11_minutesCome_11 rfl (lv_at hl 0 rfl) ?_
  refine mg (k := 6) (v := .int (gF st 6)) hx hb hts hin hown hK hP (by decide) f93 rfl dX11_minutesCome_12 rfl ?_
  refine lv_iload_n hx hb dX11_minutesCome_15 rfl (lv_at hl 1 rfl) ?_
  refine lv_iadd hx hb dX11_minutesCome_16 ?_
  refine lv_sipush (v := (999 : Int32)) hx hb dX11_minutesCome_17 (by decide) ?_
  refine lv_icmp_gt (tgt := 27) hx hb dX11_minutesCome_20 (by decide) (fun c_7 => ?_) (fun c_7 => ?_)
  · have heq := it_t c_7 heq
    exact b27 st v1 H locs ls hP hD hS (lv_sub hl [0, 1] rfl) heq
  have heq := it_f c_7 heq
  refine lv_iconst (v := (1 : Int32)) hx hb dX11_minutesCome_23 (by decide) ?_
  refine lv_goto (tgt := 28) hx hb dX11_minutesCome_24 (by decide) ?_
  exact b28 st v1 (1 : Int32) H locs ls hP hD hS (lv_sub hl [0, 1] rfl) heq
