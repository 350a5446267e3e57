/-! THE CLAIM OUT OF ONE WALK OF THE LAW'S BODY. Your part is whole_start (and what it stands on); all else here is the same for every law, but numbers. -/
def R_law : String := "MotionLabLaw"
def lw_P (b : Addr) (xs : List Int32) (args : Array Value) (s : State) : Prop := args = #[.ref b] ∧ s.IntsAt b xs ∧ xs.length ≤ 3072 ∧ (Jvm.Cond.and given_1 narrow_1).before args s = true
def lw_Q (_ : Array Value) (s : State) (o : Outcome) (t : State) : Prop := o = .returned (some (.int 1)) ∧ Framed s o t [] 23 279
def lw_Z (below : List Frame) (a : Array Value) (s : State) : State → Prop := fun t => ∃ o, t.status = .running ∧ Ended t below o ∧ lw_Q a s o t
/-- the law's own end, with 1 on the stack, nothing written that was there before, its room as the claim has it -/
theorem lw_ret {p : Program} {l : Launch} {e : Env} {s : State} {m : MethodId} {below : List Frame} {meth : Method} {c : Code} {b : Nat} (hx : p.tables.exec = Jvm.exec) (hb : c.code = code) (hr : meth.sig.returnType = ret) (hlocks : meth.locks = false) {pc : Nat} {H : Heap} {ls : Array Slot} (hdg : decode code pc = .ok (.ireturn, 1)) : W p l e room_1 s m #[Value.ref b] below meth c H [] 23 279 (lw_Z below #[Value.ref b] s) (F0 m pc ls [.int 1]) := by
  intro T hT X
  obtain ⟨fs, hret, hrun, hended, hW, hframe⟩ := X.leave (v := some (.int 1)) (hlocks := hlocks) (fun h => by rw [hr] at h; cases h)
  have hmeth' : T.vm.method? m = some meth := X.method'
  refine ⟨T.setFrames fs, ?_, .returned (some (.int 1)), hrun, hended, rfl, ⟨_, rfl⟩, hW, hframe⟩
  jvm_step X.here [X.here.top, hx, hb, hdg, hmeth', hr, ret, narrow_b1]
  (try refine ⟨rfl, ?_⟩); (try refine ⟨rfl, ?_⟩)
  first | (intro acts; rw [hret _ acts rfl rfl rfl]) | rw [hret _ _ rfl rfl rfl]
  exact Steps.refl _
/-- what holds at the law's entry: the machine, the code, the tables' words (any of lw_tbl by 'hts w (by decide +kernel)'), the script of L ints xs at the cell b, what the Statement gives of the start (any of its parts by flat_of_before) -/
def lw_At (p : Program) (s : State) (m : MethodId) (meth : Method) (c : Code) (b L : Nat) (xs : Nat → Int32) : Prop :=
  p.tables.exec = Jvm.exec ∧ c.code = code ∧ meth.sig.returnType = ret ∧ c.maxLocals = 4 ∧ s.vm.findClass R_law = some m.cls ∧ (∀ w ∈ lw_tbl, w.before #[Value.ref b] s = true) ∧ va_X b L xs s s.heap ∧ b < s.heap.size ∧ meth.locks = false ∧ (Jvm.Cond.and given_1 narrow_1).before #[Value.ref b] s = true
/-! OUR OWN ROWS: the law's own words -/
abbrev lwB (s : State) : Nat → Prop := fun q => s.heap.size ≤ q
abbrev lwG (dC : Nat → ClassId) (dI : Nat → Nat → Nat) (ad bd : Nat → Nat) (cJ cI : ClassId) (s : State) (S : CS) (M : MS) (H : Heap) (locs : List Loc) : Prop := hG (dC, dI) classes (lwB s) s.heap (cW ad cJ cI S ++ mW bd cJ cI M) H locs
abbrev lwL (ls : Array Slot) (b : Nat) (ad bd : Nat → Nat) (x : Int32) : Prop := lv_has ls 4 [(0, .ref b), (1, .ref (ad 0)), (2, .ref (bd 0)), (3, .int x)]
theorem rel_c {n : Nat} {S : CS} {M : MS} (h : Rel n S M) : cOK S := ⟨h.2.2.2.1.2.1, fun j hj => by
  obtain ⟨⟨b1, b2, b3, b4⟩, _⟩ := h.2.2.2.1.2.2 j hj
  rw [b1, b2]; exact ⟨b3, b4⟩⟩
theorem rel_m {n : Nat} {S : CS} {M : MS} (h : Rel n S M) : mOK M := ⟨by rw [← h.2.2.2.1.1]; exact h.2.2.2.1.2.1, fun j hj => by
  obtain ⟨⟨b1, b2, b3, b4⟩, _⟩ := h.2.2.2.1.2.2 j (by rw [h.2.2.2.1.1]; exact hj)
  exact ⟨b3, b4⟩⟩
theorem rel_sp {n : Nat} {S : CS} {M : MS} (h : Rel n S M) : m_springs M = 10 ∨ vp_in (m_springs M) 10 := by
  obtain ⟨j, hj, e⟩ := in_e (rel_m h).1
  rcases Nat.lt_or_ge j 10 with q | q
  · exact Or.inr (by rw [e]; exact vp_in_nI q (by decide))
  · have : j = 10 := by omega
    subst this; exact Or.inl e
theorem nI_plus (i k : Nat) : nI i + nI k = nI (i + k) := by
  rw [← iZ_nI, ← iZ_nI, iZ_add, ← iZ_nI]; exact congrArg iZ (by omega)
theorem sc_in {x : Int32} {i L k : Nat} (e : x = nI i) (h : i + 6 ≤ L) (hL : L ≤ 3072) (hk : k < 6) : vp_in (x + nI k) L := by
  rw [e, nI_plus]; exact vp_in_nI (by omega) (by omega)
theorem sc_0 {x : Int32} {i L : Nat} (e : x = nI i) (h : i + 6 ≤ L) (hL : L ≤ 3072) : vp_in x L := by
  rw [e]; exact vp_in_nI (by omega) (by omega)
theorem sc_le {x : Int32} {i L : Nat} (e : x = nI i) (h : i ≤ L) (hL : L ≤ 3072) (c : ¬ Int32.ofNat L - (6 : Int32) < x) : i + 6 ≤ L := by
  have e1 : Int32.ofNat L - (6 : Int32) = iZ ((L : Int) - 6) := by
    rw [show Int32.ofNat L = iZ (L : Int) from (iZ_nI L).symm, show (6 : Int32) = iZ 6 from rfl, iZ_sub]
  rw [e, e1, ← iZ_nI, iZ_lt (by omega) (by omega) (by omega) (by omega)] at c
  omega
theorem Z_start : Rel 0 zS0 zM0 := by
  have hm : ∀ j, j < 8 → m_m zM0 j = 1065353216 := by decide +kernel
  have hq : ∀ j, j < 8 → m_r zM0 j = 0 := by decide +kernel
  have r0 : ∀ j, j < 8 → sR zS0 (0 + j) = f_M_told_J (m_x zM0 j) := by decide +kernel
  have r1 : ∀ j, j < 8 → sR zS0 (8 + j) = f_M_told_J (m_y zM0 j) := by decide +kernel
  have r2 : ∀ j, j < 8 → sR zS0 (16 + j) = f_M_told_J (m_u zM0 j) := by decide +kernel
  have r3 : ∀ j, j < 8 → sR zS0 (24 + j) = f_M_told_J (m_v zM0 j) := by decide +kernel
  have r4 : ∀ j, j < 8 → sR zS0 (32 + j) = f_M_toDouble_J (m_m zM0 j) := by decide +kernel
  have r5 : ∀ j, j < 8 → sR zS0 (40 + j) = f_M_toDouble_J (m_r zM0 j) := by decide +kernel
  have st : ∀ j, j < 8 → sT zS0 (0 + j) = f_M_told_J (m_store zM0 j) := by decide +kernel
  have f0 : sF zS0 0 = f_M_told_J (m_gx zM0) := by decide +kernel
  have f1 : sF zS0 1 = f_M_told_J (m_gy zM0) := by decide +kernel
  have f2 : sF zS0 2 = f_M_told_J (m_drag zM0) := by decide +kernel
  have f3 : sF zS0 3 = f_M_toDouble_J (m_dt zM0) := by decide +kernel
  have f4 : sF zS0 4 = f_M_told_J (m_wall zM0) := by decide +kernel
  have f5 : sF zS0 5 = f_M_toDouble_J (m_back zM0) := by decide +kernel
  have n0 : ∀ j : Nat, ¬ j < (sC zS0).toNatClampNeg := fun j h => absurd h (Nat.not_lt_zero j)
  exact ⟨⟨r0, r1, r2, r3, r4, r5, fun j h => absurd h (Nat.not_lt_zero j), fun j h => absurd h (Nat.not_lt_zero j)⟩, ⟨f0, f1, f2, f3, f4, f5⟩, st, ⟨rfl, in_of (by decide) (by decide), fun j h => absurd h (n0 j)⟩, fun j h => ⟨1065353216, by decide, hm j h⟩, fun j h => ⟨0, by decide, hq j h⟩, ⟨1040187392, by decide, rfl⟩, ⟨1065353216, by decide, rfl⟩⟩
theorem law_tab {args : Array Value} {s : State} {n : String} {z0 z1 : Int32} {A : Nat → Prop} (hA : ∀ a : Nat, a < s.heap.size → ¬ A a) (hl : (Cond.laysStatic "MotionLabModel" n "[I").before args s = true) (ini : (Cond.initialized "MotionLabModel").before args s = true) (harr : (Cond.arrayOf (.static "MotionLabModel" n "[I") .int).before args s = true) (hlen : (Cond.eq (.length (.static "MotionLabModel" n "[I")) (.int 2)).before args s = true) (h0 : (Cond.eq (.elem (.static "MotionLabModel" n "[I") (.int 0)) (.int z0)).before args s = true) (h1 : (Cond.eq (.elem (.static "MotionLabModel" n "[I") (.int 1)) (.int z1)).before args s = true) :
    ∃ t : Nat, va_Z "MotionLabModel" n "[I" (.ref t) A s s.heap ∧ va_T .int t 2 (fun j => .int (if j = 0 then z0 else z1)) A s s.heap := by
  obtain ⟨t, ht, hT⟩ := va_Tof (N := 2) (f := fun j => .int (if j = 0 then z0 else z1)) (by decide) harr (va_eqt hlen) (fun j hj => by
    match j, hj with
    | 0, _ => exact va_eqt h0
    | 1, _ => exact va_eqt h1) hA
  exact ⟨t, va_Zref hl ini ht hA, hT⟩
theorem law_tabs {s : State} {b : Nat} {A : Nat → Prop} (hA : ∀ a : Nat, a < s.heap.size → ¬ A a) (hts : ∀ w ∈ lw_tbl, w.before #[Value.ref b] s = true) (hgv : (Jvm.Cond.and given_1 narrow_1).before #[Value.ref b] s = true) : ∃ t0 t1 t2 : Nat, RTA t0 t1 t2 A s s.heap := by
  have hs := flat_of_before _ hgv
  have ini : (Cond.initialized "MotionLabModel").before #[Value.ref b] s = true := hts _ (gt tw_4)
  obtain ⟨t0, z0⟩ := law_tab (n := "PLACES") (z0 := 53) (z1 := 24) hA (hts _ (List.mem_append_right _ (List.mem_of_getElem? (i := 529) (by decide +kernel)))) ini (hs _ (by decide +kernel)) (hs _ (by decide +kernel)) (hs _ (by decide +kernel)) (hs _ (by decide +kernel))
  obtain ⟨t1, z1⟩ := law_tab (n := "LEAST") (z0 := -1074) (z1 := -149) hA (hts _ (List.mem_append_right _ (List.mem_of_getElem? (i := 534) (by decide +kernel)))) ini (hs _ (by decide +kernel)) (hs _ (by decide +kernel)) (hs _ (by decide +kernel)) (hs _ (by decide +kernel))
  obtain ⟨t2, z2⟩ := law_tab (n := "GREATEST") (z0 := 971) (z1 := 104) hA (hts _ (List.mem_append_right _ (List.mem_of_getElem? (i := 545) (by decide +kernel)))) ini (hs _ (by decide +kernel)) (hs _ (by decide +kernel)) (hs _ (by decide +kernel)) (hs _ (by decide +kernel))
  exact ⟨t0, t1, t2, z0, z1, z2⟩
theorem d_law_0 : decode code 0 = .ok (.new 7, 3) := by decide +kernel
theorem d_law_3 : decode code 3 = .ok (.dup, 1) := by decide +kernel
theorem d_law_4 : decode code 4 = .ok (.invokespecial 9, 3) := by decide +kernel
theorem d_law_7 : decode code 7 = .ok (.astore_n 1, 1) := by decide +kernel
theorem d_law_8 : decode code 8 = .ok (.new 10, 3) := by decide +kernel
theorem d_law_11 : decode code 11 = .ok (.dup, 1) := by decide +kernel
theorem d_law_12 : decode code 12 = .ok (.invokespecial 12, 3) := by decide +kernel
theorem d_law_15 : decode code 15 = .ok (.astore_n 2, 1) := by decide +kernel
theorem d_law_16 : decode code 16 = .ok (.iconst 0, 1) := by decide +kernel
theorem d_law_17 : decode code 17 = .ok (.istore_n 3, 1) := by decide +kernel
theorem d_law_18 : decode code 18 = .ok (.iload_n 3, 1) := by decide +kernel
theorem d_law_19 : decode code 19 = .ok (.aload_n 0, 1) := by decide +kernel
theorem d_law_20 : decode code 20 = .ok (.arraylength, 1) := by decide +kernel
theorem d_law_21 : decode code 21 = .ok (.bipush 6, 2) := by decide +kernel
theorem d_law_23 : decode code 23 = .ok (.isub, 1) := by decide +kernel
theorem d_law_24 : decode code 24 = .ok (.if_icmp .gt 778, 3) := by decide +kernel
theorem d_law_27 : decode code 27 = .ok (.aload_n 0, 1) := by decide +kernel
theorem d_law_28 : decode code 28 = .ok (.iload_n 3, 1) := by decide +kernel
theorem d_law_29 : decode code 29 = .ok (.iaload, 1) := by decide +kernel
theorem d_law_30 : decode code 30 = .ok (.bipush 31, 2) := by decide +kernel
theorem d_law_32 : decode code 32 = .ok (.iand, 1) := by decide +kernel
theorem d_law_33 : decode code 33 = .ok (.tableswitch 763 0 16 #[83, 156, 219, 282, 295, 318, 352, 376, 439, 493, 567, 601, 634, 648, 682, 706, 729], 83) := by decide +kernel
theorem d_law_116 : decode code 116 = .ok (.aload_n 1, 1) := by decide +kernel
theorem d_law_117 : decode code 117 = .ok (.aload_n 0, 1) := by decide +kernel
theorem d_law_118 : decode code 118 = .ok (.iload_n 3, 1) := by decide +kernel
theorem d_law_119 : decode code 119 = .ok (.iconst 1, 1) := by decide +kernel
theorem d_law_120 : decode code 120 = .ok (.iadd, 1) := by decide +kernel
theorem d_law_121 : decode code 121 = .ok (.iaload, 1) := by decide +kernel
theorem d_law_122 : decode code 122 = .ok (.aload_n 0, 1) := by decide +kernel
theorem d_law_123 : decode code 123 = .ok (.iload_n 3, 1) := by decide +kernel
theorem d_law_124 : decode code 124 = .ok (.iconst 2, 1) := by decide +kernel
theorem d_law_125 : decode code 125 = .ok (.iadd, 1) := by decide +kernel
theorem d_law_126 : decode code 126 = .ok (.iaload, 1) := by decide +kernel
theorem d_law_127 : decode code 127 = .ok (.aload_n 0, 1) := by decide +kernel
theorem d_law_128 : decode code 128 = .ok (.iload_n 3, 1) := by decide +kernel
theorem d_law_129 : decode code 129 = .ok (.iconst 3, 1) := by decide +kernel
theorem d_law_130 : decode code 130 = .ok (.iadd, 1) := by decide +kernel
theorem d_law_131 : decode code 131 = .ok (.iaload, 1) := by decide +kernel
theorem d_law_132 : decode code 132 = .ok (.i2l, 1) := by decide +kernel
theorem d_law_133 : decode code 133 = .ok (.bipush 32, 2) := by decide +kernel
theorem d_law_135 : decode code 135 = .ok (.lshl, 1) := by decide +kernel
theorem d_law_136 : decode code 136 = .ok (.aload_n 0, 1) := by decide +kernel
theorem d_law_137 : decode code 137 = .ok (.iload_n 3, 1) := by decide +kernel
theorem d_law_138 : decode code 138 = .ok (.iconst 4, 1) := by decide +kernel
theorem d_law_139 : decode code 139 = .ok (.iadd, 1) := by decide +kernel
theorem d_law_140 : decode code 140 = .ok (.iaload, 1) := by decide +kernel
theorem d_law_141 : decode code 141 = .ok (.i2l, 1) := by decide +kernel
theorem d_law_142 : decode code 142 = .ok (.ldc2_w 13, 3) := by decide +kernel
theorem d_law_145 : decode code 145 = .ok (.land, 1) := by decide +kernel
theorem d_law_146 : decode code 146 = .ok (.lor, 1) := by decide +kernel
theorem d_law_147 : decode code 147 = .ok (.invokevirtual 15, 3) := by decide +kernel
theorem d_law_150 : decode code 150 = .ok (.aload_n 2, 1) := by decide +kernel
theorem d_law_151 : decode code 151 = .ok (.aload_n 0, 1) := by decide +kernel
theorem d_law_152 : decode code 152 = .ok (.iload_n 3, 1) := by decide +kernel
theorem d_law_153 : decode code 153 = .ok (.iconst 1, 1) := by decide +kernel
theorem d_law_154 : decode code 154 = .ok (.iadd, 1) := by decide +kernel
theorem d_law_155 : decode code 155 = .ok (.iaload, 1) := by decide +kernel
theorem d_law_156 : decode code 156 = .ok (.aload_n 0, 1) := by decide +kernel
theorem d_law_157 : decode code 157 = .ok (.iload_n 3, 1) := by decide +kernel
theorem d_law_158 : decode code 158 = .ok (.iconst 2, 1) := by decide +kernel
theorem d_law_159 : decode code 159 = .ok (.iadd, 1) := by decide +kernel
theorem d_law_160 : decode code 160 = .ok (.iaload, 1) := by decide +kernel
theorem d_law_161 : decode code 161 = .ok (.aload_n 0, 1) := by decide +kernel
theorem d_law_162 : decode code 162 = .ok (.iload_n 3, 1) := by decide +kernel
theorem d_law_163 : decode code 163 = .ok (.iconst 3, 1) := by decide +kernel
theorem d_law_164 : decode code 164 = .ok (.iadd, 1) := by decide +kernel
theorem d_law_165 : decode code 165 = .ok (.iaload, 1) := by decide +kernel
theorem d_law_166 : decode code 166 = .ok (.i2l, 1) := by decide +kernel
theorem d_law_167 : decode code 167 = .ok (.bipush 32, 2) := by decide +kernel
theorem d_law_169 : decode code 169 = .ok (.lshl, 1) := by decide +kernel
theorem d_law_170 : decode code 170 = .ok (.aload_n 0, 1) := by decide +kernel
theorem d_law_171 : decode code 171 = .ok (.iload_n 3, 1) := by decide +kernel
theorem d_law_172 : decode code 172 = .ok (.iconst 4, 1) := by decide +kernel
theorem d_law_173 : decode code 173 = .ok (.iadd, 1) := by decide +kernel
theorem d_law_174 : decode code 174 = .ok (.iaload, 1) := by decide +kernel
theorem d_law_175 : decode code 175 = .ok (.i2l, 1) := by decide +kernel
theorem d_law_176 : decode code 176 = .ok (.ldc2_w 13, 3) := by decide +kernel
theorem d_law_179 : decode code 179 = .ok (.land, 1) := by decide +kernel
theorem d_law_180 : decode code 180 = .ok (.lor, 1) := by decide +kernel
theorem d_law_181 : decode code 181 = .ok (.invokevirtual 19, 3) := by decide +kernel
theorem d_law_184 : decode code 184 = .ok (.if_icmp .eq 612, 3) := by decide +kernel
theorem d_law_187 : decode code 187 = .ok (.iconst 0, 1) := by decide +kernel
theorem d_law_188 : decode code 188 = .ok (.ireturn, 1) := by decide +kernel
theorem d_law_189 : decode code 189 = .ok (.aload_n 1, 1) := by decide +kernel
theorem d_law_190 : decode code 190 = .ok (.aload_n 0, 1) := by decide +kernel
theorem d_law_191 : decode code 191 = .ok (.iload_n 3, 1) := by decide +kernel
theorem d_law_192 : decode code 192 = .ok (.iconst 1, 1) := by decide +kernel
theorem d_law_193 : decode code 193 = .ok (.iadd, 1) := by decide +kernel
theorem d_law_194 : decode code 194 = .ok (.iaload, 1) := by decide +kernel
theorem d_law_195 : decode code 195 = .ok (.aload_n 0, 1) := by decide +kernel
theorem d_law_196 : decode code 196 = .ok (.iload_n 3, 1) := by decide +kernel
theorem d_law_197 : decode code 197 = .ok (.iconst 2, 1) := by decide +kernel
theorem d_law_198 : decode code 198 = .ok (.iadd, 1) := by decide +kernel
theorem d_law_199 : decode code 199 = .ok (.iaload, 1) := by decide +kernel
theorem d_law_200 : decode code 200 = .ok (.i2l, 1) := by decide +kernel
theorem d_law_201 : decode code 201 = .ok (.bipush 32, 2) := by decide +kernel
theorem d_law_203 : decode code 203 = .ok (.lshl, 1) := by decide +kernel
theorem d_law_204 : decode code 204 = .ok (.aload_n 0, 1) := by decide +kernel
theorem d_law_205 : decode code 205 = .ok (.iload_n 3, 1) := by decide +kernel
theorem d_law_206 : decode code 206 = .ok (.iconst 3, 1) := by decide +kernel
theorem d_law_207 : decode code 207 = .ok (.iadd, 1) := by decide +kernel
theorem d_law_208 : decode code 208 = .ok (.iaload, 1) := by decide +kernel
theorem d_law_209 : decode code 209 = .ok (.i2l, 1) := by decide +kernel
theorem d_law_210 : decode code 210 = .ok (.ldc2_w 13, 3) := by decide +kernel
theorem d_law_213 : decode code 213 = .ok (.land, 1) := by decide +kernel
theorem d_law_214 : decode code 214 = .ok (.lor, 1) := by decide +kernel
theorem d_law_215 : decode code 215 = .ok (.invokevirtual 20, 3) := by decide +kernel
theorem d_law_218 : decode code 218 = .ok (.aload_n 2, 1) := by decide +kernel
theorem d_law_219 : decode code 219 = .ok (.aload_n 0, 1) := by decide +kernel
theorem d_law_220 : decode code 220 = .ok (.iload_n 3, 1) := by decide +kernel
theorem d_law_221 : decode code 221 = .ok (.iconst 1, 1) := by decide +kernel
theorem d_law_222 : decode code 222 = .ok (.iadd, 1) := by decide +kernel
theorem d_law_223 : decode code 223 = .ok (.iaload, 1) := by decide +kernel
theorem d_law_224 : decode code 224 = .ok (.aload_n 0, 1) := by decide +kernel
theorem d_law_225 : decode code 225 = .ok (.iload_n 3, 1) := by decide +kernel
theorem d_law_226 : decode code 226 = .ok (.iconst 2, 1) := by decide +kernel
theorem d_law_227 : decode code 227 = .ok (.iadd, 1) := by decide +kernel
theorem d_law_228 : decode code 228 = .ok (.iaload, 1) := by decide +kernel
theorem d_law_229 : decode code 229 = .ok (.i2l, 1) := by decide +kernel
theorem d_law_230 : decode code 230 = .ok (.bipush 32, 2) := by decide +kernel
theorem d_law_232 : decode code 232 = .ok (.lshl, 1) := by decide +kernel
theorem d_law_233 : decode code 233 = .ok (.aload_n 0, 1) := by decide +kernel
theorem d_law_234 : decode code 234 = .ok (.iload_n 3, 1) := by decide +kernel
theorem d_law_235 : decode code 235 = .ok (.iconst 3, 1) := by decide +kernel
theorem d_law_236 : decode code 236 = .ok (.iadd, 1) := by decide +kernel
theorem d_law_237 : decode code 237 = .ok (.iaload, 1) := by decide +kernel
theorem d_law_238 : decode code 238 = .ok (.i2l, 1) := by decide +kernel
theorem d_law_239 : decode code 239 = .ok (.ldc2_w 13, 3) := by decide +kernel
theorem d_law_242 : decode code 242 = .ok (.land, 1) := by decide +kernel
theorem d_law_243 : decode code 243 = .ok (.lor, 1) := by decide +kernel
theorem d_law_244 : decode code 244 = .ok (.invokevirtual 24, 3) := by decide +kernel
theorem d_law_247 : decode code 247 = .ok (.if_icmp .eq 549, 3) := by decide +kernel
theorem d_law_250 : decode code 250 = .ok (.iconst 0, 1) := by decide +kernel
theorem d_law_251 : decode code 251 = .ok (.ireturn, 1) := by decide +kernel
theorem d_law_252 : decode code 252 = .ok (.aload_n 1, 1) := by decide +kernel
theorem d_law_253 : decode code 253 = .ok (.aload_n 0, 1) := by decide +kernel
theorem d_law_254 : decode code 254 = .ok (.iload_n 3, 1) := by decide +kernel
theorem d_law_255 : decode code 255 = .ok (.iconst 1, 1) := by decide +kernel
theorem d_law_256 : decode code 256 = .ok (.iadd, 1) := by decide +kernel
theorem d_law_257 : decode code 257 = .ok (.iaload, 1) := by decide +kernel
theorem d_law_258 : decode code 258 = .ok (.aload_n 0, 1) := by decide +kernel
theorem d_law_259 : decode code 259 = .ok (.iload_n 3, 1) := by decide +kernel
theorem d_law_260 : decode code 260 = .ok (.iconst 2, 1) := by decide +kernel
theorem d_law_261 : decode code 261 = .ok (.iadd, 1) := by decide +kernel
theorem d_law_262 : decode code 262 = .ok (.iaload, 1) := by decide +kernel
theorem d_law_263 : decode code 263 = .ok (.aload_n 0, 1) := by decide +kernel
theorem d_law_264 : decode code 264 = .ok (.iload_n 3, 1) := by decide +kernel
theorem d_law_265 : decode code 265 = .ok (.iconst 3, 1) := by decide +kernel
theorem d_law_266 : decode code 266 = .ok (.iadd, 1) := by decide +kernel
theorem d_law_267 : decode code 267 = .ok (.iaload, 1) := by decide +kernel
theorem d_law_268 : decode code 268 = .ok (.aload_n 0, 1) := by decide +kernel
theorem d_law_269 : decode code 269 = .ok (.iload_n 3, 1) := by decide +kernel
theorem d_law_270 : decode code 270 = .ok (.iconst 4, 1) := by decide +kernel
theorem d_law_271 : decode code 271 = .ok (.iadd, 1) := by decide +kernel
theorem d_law_272 : decode code 272 = .ok (.iaload, 1) := by decide +kernel
theorem d_law_273 : decode code 273 = .ok (.aload_n 0, 1) := by decide +kernel
theorem d_law_274 : decode code 274 = .ok (.iload_n 3, 1) := by decide +kernel
theorem d_law_275 : decode code 275 = .ok (.iconst 5, 1) := by decide +kernel
theorem d_law_276 : decode code 276 = .ok (.iadd, 1) := by decide +kernel
theorem d_law_277 : decode code 277 = .ok (.iaload, 1) := by decide +kernel
theorem d_law_278 : decode code 278 = .ok (.invokevirtual 25, 3) := by decide +kernel
theorem d_law_281 : decode code 281 = .ok (.aload_n 2, 1) := by decide +kernel
theorem d_law_282 : decode code 282 = .ok (.aload_n 0, 1) := by decide +kernel
theorem d_law_283 : decode code 283 = .ok (.iload_n 3, 1) := by decide +kernel
theorem d_law_284 : decode code 284 = .ok (.iconst 1, 1) := by decide +kernel
theorem d_law_285 : decode code 285 = .ok (.iadd, 1) := by decide +kernel
theorem d_law_286 : decode code 286 = .ok (.iaload, 1) := by decide +kernel
theorem d_law_287 : decode code 287 = .ok (.aload_n 0, 1) := by decide +kernel
theorem d_law_288 : decode code 288 = .ok (.iload_n 3, 1) := by decide +kernel
theorem d_law_289 : decode code 289 = .ok (.iconst 2, 1) := by decide +kernel
theorem d_law_290 : decode code 290 = .ok (.iadd, 1) := by decide +kernel
theorem d_law_291 : decode code 291 = .ok (.iaload, 1) := by decide +kernel
theorem d_law_292 : decode code 292 = .ok (.aload_n 0, 1) := by decide +kernel
theorem d_law_293 : decode code 293 = .ok (.iload_n 3, 1) := by decide +kernel
theorem d_law_294 : decode code 294 = .ok (.iconst 3, 1) := by decide +kernel
theorem d_law_295 : decode code 295 = .ok (.iadd, 1) := by decide +kernel
theorem d_law_296 : decode code 296 = .ok (.iaload, 1) := by decide +kernel
theorem d_law_297 : decode code 297 = .ok (.aload_n 0, 1) := by decide +kernel
theorem d_law_298 : decode code 298 = .ok (.iload_n 3, 1) := by decide +kernel
theorem d_law_299 : decode code 299 = .ok (.iconst 4, 1) := by decide +kernel
theorem d_law_300 : decode code 300 = .ok (.iadd, 1) := by decide +kernel
theorem d_law_301 : decode code 301 = .ok (.iaload, 1) := by decide +kernel
theorem d_law_302 : decode code 302 = .ok (.aload_n 0, 1) := by decide +kernel
theorem d_law_303 : decode code 303 = .ok (.iload_n 3, 1) := by decide +kernel
theorem d_law_304 : decode code 304 = .ok (.iconst 5, 1) := by decide +kernel
theorem d_law_305 : decode code 305 = .ok (.iadd, 1) := by decide +kernel
theorem d_law_306 : decode code 306 = .ok (.iaload, 1) := by decide +kernel
theorem d_law_307 : decode code 307 = .ok (.invokevirtual 29, 3) := by decide +kernel
theorem d_law_310 : decode code 310 = .ok (.if_icmp .eq 486, 3) := by decide +kernel
theorem d_law_313 : decode code 313 = .ok (.iconst 0, 1) := by decide +kernel
theorem d_law_314 : decode code 314 = .ok (.ireturn, 1) := by decide +kernel
theorem d_law_315 : decode code 315 = .ok (.aload_n 1, 1) := by decide +kernel
theorem d_law_316 : decode code 316 = .ok (.invokevirtual 30, 3) := by decide +kernel
theorem d_law_319 : decode code 319 = .ok (.aload_n 2, 1) := by decide +kernel
theorem d_law_320 : decode code 320 = .ok (.invokevirtual 34, 3) := by decide +kernel
theorem d_law_323 : decode code 323 = .ok (.if_icmp .eq 473, 3) := by decide +kernel
theorem d_law_326 : decode code 326 = .ok (.iconst 0, 1) := by decide +kernel
theorem d_law_327 : decode code 327 = .ok (.ireturn, 1) := by decide +kernel
theorem d_law_328 : decode code 328 = .ok (.aload_n 1, 1) := by decide +kernel
theorem d_law_329 : decode code 329 = .ok (.aload_n 0, 1) := by decide +kernel
theorem d_law_330 : decode code 330 = .ok (.iload_n 3, 1) := by decide +kernel
theorem d_law_331 : decode code 331 = .ok (.iconst 1, 1) := by decide +kernel
theorem d_law_332 : decode code 332 = .ok (.iadd, 1) := by decide +kernel
theorem d_law_333 : decode code 333 = .ok (.iaload, 1) := by decide +kernel
theorem d_law_334 : decode code 334 = .ok (.invokevirtual 35, 3) := by decide +kernel
theorem d_law_337 : decode code 337 = .ok (.aload_n 2, 1) := by decide +kernel
theorem d_law_338 : decode code 338 = .ok (.aload_n 0, 1) := by decide +kernel
theorem d_law_339 : decode code 339 = .ok (.iload_n 3, 1) := by decide +kernel
theorem d_law_340 : decode code 340 = .ok (.iconst 1, 1) := by decide +kernel
theorem d_law_341 : decode code 341 = .ok (.iadd, 1) := by decide +kernel
theorem d_law_342 : decode code 342 = .ok (.iaload, 1) := by decide +kernel
theorem d_law_343 : decode code 343 = .ok (.invokevirtual 39, 3) := by decide +kernel
theorem d_law_346 : decode code 346 = .ok (.if_icmp .eq 450, 3) := by decide +kernel
theorem d_law_349 : decode code 349 = .ok (.iconst 0, 1) := by decide +kernel
theorem d_law_350 : decode code 350 = .ok (.ireturn, 1) := by decide +kernel
theorem d_law_351 : decode code 351 = .ok (.aload_n 1, 1) := by decide +kernel
theorem d_law_352 : decode code 352 = .ok (.aload_n 0, 1) := by decide +kernel
theorem d_law_353 : decode code 353 = .ok (.iload_n 3, 1) := by decide +kernel
theorem d_law_354 : decode code 354 = .ok (.iconst 1, 1) := by decide +kernel
theorem d_law_355 : decode code 355 = .ok (.iadd, 1) := by decide +kernel
theorem d_law_356 : decode code 356 = .ok (.iaload, 1) := by decide +kernel
theorem d_law_357 : decode code 357 = .ok (.aload_n 0, 1) := by decide +kernel
theorem d_law_358 : decode code 358 = .ok (.iload_n 3, 1) := by decide +kernel
theorem d_law_359 : decode code 359 = .ok (.iconst 2, 1) := by decide +kernel
theorem d_law_360 : decode code 360 = .ok (.iadd, 1) := by decide +kernel
theorem d_law_361 : decode code 361 = .ok (.iaload, 1) := by decide +kernel
theorem d_law_362 : decode code 362 = .ok (.invokevirtual 40, 3) := by decide +kernel
theorem d_law_365 : decode code 365 = .ok (.aload_n 2, 1) := by decide +kernel
theorem d_law_366 : decode code 366 = .ok (.aload_n 0, 1) := by decide +kernel
theorem d_law_367 : decode code 367 = .ok (.iload_n 3, 1) := by decide +kernel
theorem d_law_368 : decode code 368 = .ok (.iconst 1, 1) := by decide +kernel
theorem d_law_369 : decode code 369 = .ok (.iadd, 1) := by decide +kernel
theorem d_law_370 : decode code 370 = .ok (.iaload, 1) := by decide +kernel
theorem d_law_371 : decode code 371 = .ok (.aload_n 0, 1) := by decide +kernel
theorem d_law_372 : decode code 372 = .ok (.iload_n 3, 1) := by decide +kernel
theorem d_law_373 : decode code 373 = .ok (.iconst 2, 1) := by decide +kernel
theorem d_law_374 : decode code 374 = .ok (.iadd, 1) := by decide +kernel
theorem d_law_375 : decode code 375 = .ok (.iaload, 1) := by decide +kernel
theorem d_law_376 : decode code 376 = .ok (.invokevirtual 44, 3) := by decide +kernel
theorem d_law_379 : decode code 379 = .ok (.lcmp, 1) := by decide +kernel
theorem d_law_380 : decode code 380 = .ok (.ifCond .eq 416, 3) := by decide +kernel
theorem d_law_383 : decode code 383 = .ok (.iconst 0, 1) := by decide +kernel
theorem d_law_384 : decode code 384 = .ok (.ireturn, 1) := by decide +kernel
theorem d_law_385 : decode code 385 = .ok (.aload_n 1, 1) := by decide +kernel
theorem d_law_386 : decode code 386 = .ok (.aload_n 0, 1) := by decide +kernel
theorem d_law_387 : decode code 387 = .ok (.iload_n 3, 1) := by decide +kernel
theorem d_law_388 : decode code 388 = .ok (.iconst 1, 1) := by decide +kernel
theorem d_law_389 : decode code 389 = .ok (.iadd, 1) := by decide +kernel
theorem d_law_390 : decode code 390 = .ok (.iaload, 1) := by decide +kernel
theorem d_law_391 : decode code 391 = .ok (.invokevirtual 45, 3) := by decide +kernel
theorem d_law_394 : decode code 394 = .ok (.aload_n 2, 1) := by decide +kernel
theorem d_law_395 : decode code 395 = .ok (.aload_n 0, 1) := by decide +kernel
theorem d_law_396 : decode code 396 = .ok (.iload_n 3, 1) := by decide +kernel
theorem d_law_397 : decode code 397 = .ok (.iconst 1, 1) := by decide +kernel
theorem d_law_398 : decode code 398 = .ok (.iadd, 1) := by decide +kernel
theorem d_law_399 : decode code 399 = .ok (.iaload, 1) := by decide +kernel
theorem d_law_400 : decode code 400 = .ok (.invokevirtual 49, 3) := by decide +kernel
theorem d_law_403 : decode code 403 = .ok (.lcmp, 1) := by decide +kernel
theorem d_law_404 : decode code 404 = .ok (.ifCond .eq 392, 3) := by decide +kernel
theorem d_law_407 : decode code 407 = .ok (.iconst 0, 1) := by decide +kernel
theorem d_law_408 : decode code 408 = .ok (.ireturn, 1) := by decide +kernel
theorem d_law_409 : decode code 409 = .ok (.aload_n 1, 1) := by decide +kernel
theorem d_law_410 : decode code 410 = .ok (.aload_n 0, 1) := by decide +kernel
theorem d_law_411 : decode code 411 = .ok (.iload_n 3, 1) := by decide +kernel
theorem d_law_412 : decode code 412 = .ok (.iconst 1, 1) := by decide +kernel
theorem d_law_413 : decode code 413 = .ok (.iadd, 1) := by decide +kernel
theorem d_law_414 : decode code 414 = .ok (.iaload, 1) := by decide +kernel
theorem d_law_415 : decode code 415 = .ok (.aload_n 0, 1) := by decide +kernel
theorem d_law_416 : decode code 416 = .ok (.iload_n 3, 1) := by decide +kernel
theorem d_law_417 : decode code 417 = .ok (.iconst 2, 1) := by decide +kernel
theorem d_law_418 : decode code 418 = .ok (.iadd, 1) := by decide +kernel
theorem d_law_419 : decode code 419 = .ok (.iaload, 1) := by decide +kernel
theorem d_law_420 : decode code 420 = .ok (.i2l, 1) := by decide +kernel
theorem d_law_421 : decode code 421 = .ok (.bipush 32, 2) := by decide +kernel
theorem d_law_423 : decode code 423 = .ok (.lshl, 1) := by decide +kernel
theorem d_law_424 : decode code 424 = .ok (.aload_n 0, 1) := by decide +kernel
theorem d_law_425 : decode code 425 = .ok (.iload_n 3, 1) := by decide +kernel
theorem d_law_426 : decode code 426 = .ok (.iconst 3, 1) := by decide +kernel
theorem d_law_427 : decode code 427 = .ok (.iadd, 1) := by decide +kernel
theorem d_law_428 : decode code 428 = .ok (.iaload, 1) := by decide +kernel
theorem d_law_429 : decode code 429 = .ok (.i2l, 1) := by decide +kernel
theorem d_law_430 : decode code 430 = .ok (.ldc2_w 13, 3) := by decide +kernel
theorem d_law_433 : decode code 433 = .ok (.land, 1) := by decide +kernel
theorem d_law_434 : decode code 434 = .ok (.lor, 1) := by decide +kernel
theorem d_law_435 : decode code 435 = .ok (.invokevirtual 50, 3) := by decide +kernel
theorem d_law_438 : decode code 438 = .ok (.aload_n 2, 1) := by decide +kernel
theorem d_law_439 : decode code 439 = .ok (.aload_n 0, 1) := by decide +kernel
theorem d_law_440 : decode code 440 = .ok (.iload_n 3, 1) := by decide +kernel
theorem d_law_441 : decode code 441 = .ok (.iconst 1, 1) := by decide +kernel
theorem d_law_442 : decode code 442 = .ok (.iadd, 1) := by decide +kernel
theorem d_law_443 : decode code 443 = .ok (.iaload, 1) := by decide +kernel
theorem d_law_444 : decode code 444 = .ok (.aload_n 0, 1) := by decide +kernel
theorem d_law_445 : decode code 445 = .ok (.iload_n 3, 1) := by decide +kernel
theorem d_law_446 : decode code 446 = .ok (.iconst 2, 1) := by decide +kernel
theorem d_law_447 : decode code 447 = .ok (.iadd, 1) := by decide +kernel
theorem d_law_448 : decode code 448 = .ok (.iaload, 1) := by decide +kernel
theorem d_law_449 : decode code 449 = .ok (.i2l, 1) := by decide +kernel
theorem d_law_450 : decode code 450 = .ok (.bipush 32, 2) := by decide +kernel
theorem d_law_452 : decode code 452 = .ok (.lshl, 1) := by decide +kernel
theorem d_law_453 : decode code 453 = .ok (.aload_n 0, 1) := by decide +kernel
theorem d_law_454 : decode code 454 = .ok (.iload_n 3, 1) := by decide +kernel
theorem d_law_455 : decode code 455 = .ok (.iconst 3, 1) := by decide +kernel
theorem d_law_456 : decode code 456 = .ok (.iadd, 1) := by decide +kernel
theorem d_law_457 : decode code 457 = .ok (.iaload, 1) := by decide +kernel
theorem d_law_458 : decode code 458 = .ok (.i2l, 1) := by decide +kernel
theorem d_law_459 : decode code 459 = .ok (.ldc2_w 13, 3) := by decide +kernel
theorem d_law_462 : decode code 462 = .ok (.land, 1) := by decide +kernel
theorem d_law_463 : decode code 463 = .ok (.lor, 1) := by decide +kernel
theorem d_law_464 : decode code 464 = .ok (.invokevirtual 53, 3) := by decide +kernel
theorem d_law_467 : decode code 467 = .ok (.if_icmp .eq 329, 3) := by decide +kernel
theorem d_law_470 : decode code 470 = .ok (.iconst 0, 1) := by decide +kernel
theorem d_law_471 : decode code 471 = .ok (.ireturn, 1) := by decide +kernel
theorem d_law_472 : decode code 472 = .ok (.aload_n 1, 1) := by decide +kernel
theorem d_law_473 : decode code 473 = .ok (.aload_n 0, 1) := by decide +kernel
theorem d_law_474 : decode code 474 = .ok (.iload_n 3, 1) := by decide +kernel
theorem d_law_475 : decode code 475 = .ok (.iconst 1, 1) := by decide +kernel
theorem d_law_476 : decode code 476 = .ok (.iadd, 1) := by decide +kernel
theorem d_law_477 : decode code 477 = .ok (.iaload, 1) := by decide +kernel
theorem d_law_478 : decode code 478 = .ok (.aload_n 0, 1) := by decide +kernel
theorem d_law_479 : decode code 479 = .ok (.iload_n 3, 1) := by decide +kernel
theorem d_law_480 : decode code 480 = .ok (.iconst 2, 1) := by decide +kernel
theorem d_law_481 : decode code 481 = .ok (.iadd, 1) := by decide +kernel
theorem d_law_482 : decode code 482 = .ok (.iaload, 1) := by decide +kernel
theorem d_law_483 : decode code 483 = .ok (.aload_n 0, 1) := by decide +kernel
theorem d_law_484 : decode code 484 = .ok (.iload_n 3, 1) := by decide +kernel
theorem d_law_485 : decode code 485 = .ok (.iconst 3, 1) := by decide +kernel
theorem d_law_486 : decode code 486 = .ok (.iadd, 1) := by decide +kernel
theorem d_law_487 : decode code 487 = .ok (.iaload, 1) := by decide +kernel
theorem d_law_488 : decode code 488 = .ok (.aload_n 0, 1) := by decide +kernel
theorem d_law_489 : decode code 489 = .ok (.iload_n 3, 1) := by decide +kernel
theorem d_law_490 : decode code 490 = .ok (.iconst 4, 1) := by decide +kernel
theorem d_law_491 : decode code 491 = .ok (.iadd, 1) := by decide +kernel
theorem d_law_492 : decode code 492 = .ok (.iaload, 1) := by decide +kernel
theorem d_law_493 : decode code 493 = .ok (.invokevirtual 54, 3) := by decide +kernel
theorem d_law_496 : decode code 496 = .ok (.aload_n 2, 1) := by decide +kernel
theorem d_law_497 : decode code 497 = .ok (.aload_n 0, 1) := by decide +kernel
theorem d_law_498 : decode code 498 = .ok (.iload_n 3, 1) := by decide +kernel
theorem d_law_499 : decode code 499 = .ok (.iconst 1, 1) := by decide +kernel
theorem d_law_500 : decode code 500 = .ok (.iadd, 1) := by decide +kernel
theorem d_law_501 : decode code 501 = .ok (.iaload, 1) := by decide +kernel
theorem d_law_502 : decode code 502 = .ok (.aload_n 0, 1) := by decide +kernel
theorem d_law_503 : decode code 503 = .ok (.iload_n 3, 1) := by decide +kernel
theorem d_law_504 : decode code 504 = .ok (.iconst 2, 1) := by decide +kernel
theorem d_law_505 : decode code 505 = .ok (.iadd, 1) := by decide +kernel
theorem d_law_506 : decode code 506 = .ok (.iaload, 1) := by decide +kernel
theorem d_law_507 : decode code 507 = .ok (.aload_n 0, 1) := by decide +kernel
theorem d_law_508 : decode code 508 = .ok (.iload_n 3, 1) := by decide +kernel
theorem d_law_509 : decode code 509 = .ok (.iconst 3, 1) := by decide +kernel
theorem d_law_510 : decode code 510 = .ok (.iadd, 1) := by decide +kernel
theorem d_law_511 : decode code 511 = .ok (.iaload, 1) := by decide +kernel
theorem d_law_512 : decode code 512 = .ok (.aload_n 0, 1) := by decide +kernel
theorem d_law_513 : decode code 513 = .ok (.iload_n 3, 1) := by decide +kernel
theorem d_law_514 : decode code 514 = .ok (.iconst 4, 1) := by decide +kernel
theorem d_law_515 : decode code 515 = .ok (.iadd, 1) := by decide +kernel
theorem d_law_516 : decode code 516 = .ok (.iaload, 1) := by decide +kernel
theorem d_law_517 : decode code 517 = .ok (.invokevirtual 58, 3) := by decide +kernel
theorem d_law_520 : decode code 520 = .ok (.lcmp, 1) := by decide +kernel
theorem d_law_521 : decode code 521 = .ok (.ifCond .eq 275, 3) := by decide +kernel
theorem d_law_524 : decode code 524 = .ok (.iconst 0, 1) := by decide +kernel
theorem d_law_525 : decode code 525 = .ok (.ireturn, 1) := by decide +kernel
theorem d_law_526 : decode code 526 = .ok (.aload_n 1, 1) := by decide +kernel
theorem d_law_527 : decode code 527 = .ok (.aload_n 0, 1) := by decide +kernel
theorem d_law_528 : decode code 528 = .ok (.iload_n 3, 1) := by decide +kernel
theorem d_law_529 : decode code 529 = .ok (.iconst 1, 1) := by decide +kernel
theorem d_law_530 : decode code 530 = .ok (.iadd, 1) := by decide +kernel
theorem d_law_531 : decode code 531 = .ok (.iaload, 1) := by decide +kernel
theorem d_law_532 : decode code 532 = .ok (.aload_n 0, 1) := by decide +kernel
theorem d_law_533 : decode code 533 = .ok (.iload_n 3, 1) := by decide +kernel
theorem d_law_534 : decode code 534 = .ok (.iconst 2, 1) := by decide +kernel
theorem d_law_535 : decode code 535 = .ok (.iadd, 1) := by decide +kernel
theorem d_law_536 : decode code 536 = .ok (.iaload, 1) := by decide +kernel
theorem d_law_537 : decode code 537 = .ok (.aload_n 0, 1) := by decide +kernel
theorem d_law_538 : decode code 538 = .ok (.iload_n 3, 1) := by decide +kernel
theorem d_law_539 : decode code 539 = .ok (.iconst 3, 1) := by decide +kernel
theorem d_law_540 : decode code 540 = .ok (.iadd, 1) := by decide +kernel
theorem d_law_541 : decode code 541 = .ok (.iaload, 1) := by decide +kernel
theorem d_law_542 : decode code 542 = .ok (.i2l, 1) := by decide +kernel
theorem d_law_543 : decode code 543 = .ok (.bipush 32, 2) := by decide +kernel
theorem d_law_545 : decode code 545 = .ok (.lshl, 1) := by decide +kernel
theorem d_law_546 : decode code 546 = .ok (.aload_n 0, 1) := by decide +kernel
theorem d_law_547 : decode code 547 = .ok (.iload_n 3, 1) := by decide +kernel
theorem d_law_548 : decode code 548 = .ok (.iconst 4, 1) := by decide +kernel
theorem d_law_549 : decode code 549 = .ok (.iadd, 1) := by decide +kernel
theorem d_law_550 : decode code 550 = .ok (.iaload, 1) := by decide +kernel
theorem d_law_551 : decode code 551 = .ok (.i2l, 1) := by decide +kernel
theorem d_law_552 : decode code 552 = .ok (.ldc2_w 13, 3) := by decide +kernel
theorem d_law_555 : decode code 555 = .ok (.land, 1) := by decide +kernel
theorem d_law_556 : decode code 556 = .ok (.lor, 1) := by decide +kernel
theorem d_law_557 : decode code 557 = .ok (.invokevirtual 59, 3) := by decide +kernel
theorem d_law_560 : decode code 560 = .ok (.aload_n 2, 1) := by decide +kernel
theorem d_law_561 : decode code 561 = .ok (.aload_n 0, 1) := by decide +kernel
theorem d_law_562 : decode code 562 = .ok (.iload_n 3, 1) := by decide +kernel
theorem d_law_563 : decode code 563 = .ok (.iconst 1, 1) := by decide +kernel
theorem d_law_564 : decode code 564 = .ok (.iadd, 1) := by decide +kernel
theorem d_law_565 : decode code 565 = .ok (.iaload, 1) := by decide +kernel
theorem d_law_566 : decode code 566 = .ok (.aload_n 0, 1) := by decide +kernel
theorem d_law_567 : decode code 567 = .ok (.iload_n 3, 1) := by decide +kernel
theorem d_law_568 : decode code 568 = .ok (.iconst 2, 1) := by decide +kernel
theorem d_law_569 : decode code 569 = .ok (.iadd, 1) := by decide +kernel
theorem d_law_570 : decode code 570 = .ok (.iaload, 1) := by decide +kernel
theorem d_law_571 : decode code 571 = .ok (.aload_n 0, 1) := by decide +kernel
theorem d_law_572 : decode code 572 = .ok (.iload_n 3, 1) := by decide +kernel
theorem d_law_573 : decode code 573 = .ok (.iconst 3, 1) := by decide +kernel
theorem d_law_574 : decode code 574 = .ok (.iadd, 1) := by decide +kernel
theorem d_law_575 : decode code 575 = .ok (.iaload, 1) := by decide +kernel
theorem d_law_576 : decode code 576 = .ok (.i2l, 1) := by decide +kernel
theorem d_law_577 : decode code 577 = .ok (.bipush 32, 2) := by decide +kernel
theorem d_law_579 : decode code 579 = .ok (.lshl, 1) := by decide +kernel
theorem d_law_580 : decode code 580 = .ok (.aload_n 0, 1) := by decide +kernel
theorem d_law_581 : decode code 581 = .ok (.iload_n 3, 1) := by decide +kernel
theorem d_law_582 : decode code 582 = .ok (.iconst 4, 1) := by decide +kernel
theorem d_law_583 : decode code 583 = .ok (.iadd, 1) := by decide +kernel
theorem d_law_584 : decode code 584 = .ok (.iaload, 1) := by decide +kernel
theorem d_law_585 : decode code 585 = .ok (.i2l, 1) := by decide +kernel
theorem d_law_586 : decode code 586 = .ok (.ldc2_w 13, 3) := by decide +kernel
theorem d_law_589 : decode code 589 = .ok (.land, 1) := by decide +kernel
theorem d_law_590 : decode code 590 = .ok (.lor, 1) := by decide +kernel
theorem d_law_591 : decode code 591 = .ok (.invokevirtual 63, 3) := by decide +kernel
theorem d_law_594 : decode code 594 = .ok (.lcmp, 1) := by decide +kernel
theorem d_law_595 : decode code 595 = .ok (.ifCond .eq 201, 3) := by decide +kernel
theorem d_law_598 : decode code 598 = .ok (.iconst 0, 1) := by decide +kernel
theorem d_law_599 : decode code 599 = .ok (.ireturn, 1) := by decide +kernel
theorem d_law_600 : decode code 600 = .ok (.aload_n 1, 1) := by decide +kernel
theorem d_law_601 : decode code 601 = .ok (.aload_n 0, 1) := by decide +kernel
theorem d_law_602 : decode code 602 = .ok (.iload_n 3, 1) := by decide +kernel
theorem d_law_603 : decode code 603 = .ok (.iconst 1, 1) := by decide +kernel
theorem d_law_604 : decode code 604 = .ok (.iadd, 1) := by decide +kernel
theorem d_law_605 : decode code 605 = .ok (.iaload, 1) := by decide +kernel
theorem d_law_606 : decode code 606 = .ok (.aload_n 0, 1) := by decide +kernel
theorem d_law_607 : decode code 607 = .ok (.iload_n 3, 1) := by decide +kernel
theorem d_law_608 : decode code 608 = .ok (.iconst 2, 1) := by decide +kernel
theorem d_law_609 : decode code 609 = .ok (.iadd, 1) := by decide +kernel
theorem d_law_610 : decode code 610 = .ok (.iaload, 1) := by decide +kernel
theorem d_law_611 : decode code 611 = .ok (.invokevirtual 64, 3) := by decide +kernel
theorem d_law_614 : decode code 614 = .ok (.aload_n 2, 1) := by decide +kernel
theorem d_law_615 : decode code 615 = .ok (.aload_n 0, 1) := by decide +kernel
theorem d_law_616 : decode code 616 = .ok (.iload_n 3, 1) := by decide +kernel
theorem d_law_617 : decode code 617 = .ok (.iconst 1, 1) := by decide +kernel
theorem d_law_618 : decode code 618 = .ok (.iadd, 1) := by decide +kernel
theorem d_law_619 : decode code 619 = .ok (.iaload, 1) := by decide +kernel
theorem d_law_620 : decode code 620 = .ok (.aload_n 0, 1) := by decide +kernel
theorem d_law_621 : decode code 621 = .ok (.iload_n 3, 1) := by decide +kernel
theorem d_law_622 : decode code 622 = .ok (.iconst 2, 1) := by decide +kernel
theorem d_law_623 : decode code 623 = .ok (.iadd, 1) := by decide +kernel
theorem d_law_624 : decode code 624 = .ok (.iaload, 1) := by decide +kernel
theorem d_law_625 : decode code 625 = .ok (.invokevirtual 67, 3) := by decide +kernel
theorem d_law_628 : decode code 628 = .ok (.lcmp, 1) := by decide +kernel
theorem d_law_629 : decode code 629 = .ok (.ifCond .eq 167, 3) := by decide +kernel
theorem d_law_632 : decode code 632 = .ok (.iconst 0, 1) := by decide +kernel
theorem d_law_633 : decode code 633 = .ok (.ireturn, 1) := by decide +kernel
theorem d_law_634 : decode code 634 = .ok (.aload_n 1, 1) := by decide +kernel
theorem d_law_635 : decode code 635 = .ok (.aload_n 0, 1) := by decide +kernel
theorem d_law_636 : decode code 636 = .ok (.iload_n 3, 1) := by decide +kernel
theorem d_law_637 : decode code 637 = .ok (.iconst 1, 1) := by decide +kernel
theorem d_law_638 : decode code 638 = .ok (.iadd, 1) := by decide +kernel
theorem d_law_639 : decode code 639 = .ok (.iaload, 1) := by decide +kernel
theorem d_law_640 : decode code 640 = .ok (.aload_n 0, 1) := by decide +kernel
theorem d_law_641 : decode code 641 = .ok (.iload_n 3, 1) := by decide +kernel
theorem d_law_642 : decode code 642 = .ok (.iconst 2, 1) := by decide +kernel
theorem d_law_643 : decode code 643 = .ok (.iadd, 1) := by decide +kernel
theorem d_law_644 : decode code 644 = .ok (.iaload, 1) := by decide +kernel
theorem d_law_645 : decode code 645 = .ok (.invokevirtual 68, 3) := by decide +kernel
theorem d_law_648 : decode code 648 = .ok (.aload_n 2, 1) := by decide +kernel
theorem d_law_649 : decode code 649 = .ok (.aload_n 0, 1) := by decide +kernel
theorem d_law_650 : decode code 650 = .ok (.iload_n 3, 1) := by decide +kernel
theorem d_law_651 : decode code 651 = .ok (.iconst 1, 1) := by decide +kernel
theorem d_law_652 : decode code 652 = .ok (.iadd, 1) := by decide +kernel
theorem d_law_653 : decode code 653 = .ok (.iaload, 1) := by decide +kernel
theorem d_law_654 : decode code 654 = .ok (.aload_n 0, 1) := by decide +kernel
theorem d_law_655 : decode code 655 = .ok (.iload_n 3, 1) := by decide +kernel
theorem d_law_656 : decode code 656 = .ok (.iconst 2, 1) := by decide +kernel
theorem d_law_657 : decode code 657 = .ok (.iadd, 1) := by decide +kernel
theorem d_law_658 : decode code 658 = .ok (.iaload, 1) := by decide +kernel
theorem d_law_659 : decode code 659 = .ok (.invokevirtual 72, 3) := by decide +kernel
theorem d_law_662 : decode code 662 = .ok (.if_icmp .eq 134, 3) := by decide +kernel
theorem d_law_665 : decode code 665 = .ok (.iconst 0, 1) := by decide +kernel
theorem d_law_666 : decode code 666 = .ok (.ireturn, 1) := by decide +kernel
theorem d_law_667 : decode code 667 = .ok (.aload_n 1, 1) := by decide +kernel
theorem d_law_668 : decode code 668 = .ok (.invokevirtual 73, 3) := by decide +kernel
theorem d_law_671 : decode code 671 = .ok (.aload_n 2, 1) := by decide +kernel
theorem d_law_672 : decode code 672 = .ok (.invokevirtual 77, 3) := by decide +kernel
theorem d_law_675 : decode code 675 = .ok (.lcmp, 1) := by decide +kernel
theorem d_law_676 : decode code 676 = .ok (.ifCond .eq 120, 3) := by decide +kernel
theorem d_law_679 : decode code 679 = .ok (.iconst 0, 1) := by decide +kernel
theorem d_law_680 : decode code 680 = .ok (.ireturn, 1) := by decide +kernel
theorem d_law_681 : decode code 681 = .ok (.aload_n 1, 1) := by decide +kernel
theorem d_law_682 : decode code 682 = .ok (.aload_n 0, 1) := by decide +kernel
theorem d_law_683 : decode code 683 = .ok (.iload_n 3, 1) := by decide +kernel
theorem d_law_684 : decode code 684 = .ok (.iconst 1, 1) := by decide +kernel
theorem d_law_685 : decode code 685 = .ok (.iadd, 1) := by decide +kernel
theorem d_law_686 : decode code 686 = .ok (.iaload, 1) := by decide +kernel
theorem d_law_687 : decode code 687 = .ok (.aload_n 0, 1) := by decide +kernel
theorem d_law_688 : decode code 688 = .ok (.iload_n 3, 1) := by decide +kernel
theorem d_law_689 : decode code 689 = .ok (.iconst 2, 1) := by decide +kernel
theorem d_law_690 : decode code 690 = .ok (.iadd, 1) := by decide +kernel
theorem d_law_691 : decode code 691 = .ok (.iaload, 1) := by decide +kernel
theorem d_law_692 : decode code 692 = .ok (.invokevirtual 78, 3) := by decide +kernel
theorem d_law_695 : decode code 695 = .ok (.aload_n 2, 1) := by decide +kernel
theorem d_law_696 : decode code 696 = .ok (.aload_n 0, 1) := by decide +kernel
theorem d_law_697 : decode code 697 = .ok (.iload_n 3, 1) := by decide +kernel
theorem d_law_698 : decode code 698 = .ok (.iconst 1, 1) := by decide +kernel
theorem d_law_699 : decode code 699 = .ok (.iadd, 1) := by decide +kernel
theorem d_law_700 : decode code 700 = .ok (.iaload, 1) := by decide +kernel
theorem d_law_701 : decode code 701 = .ok (.aload_n 0, 1) := by decide +kernel
theorem d_law_702 : decode code 702 = .ok (.iload_n 3, 1) := by decide +kernel
theorem d_law_703 : decode code 703 = .ok (.iconst 2, 1) := by decide +kernel
theorem d_law_704 : decode code 704 = .ok (.iadd, 1) := by decide +kernel
theorem d_law_705 : decode code 705 = .ok (.iaload, 1) := by decide +kernel
theorem d_law_706 : decode code 706 = .ok (.invokevirtual 81, 3) := by decide +kernel
theorem d_law_709 : decode code 709 = .ok (.lcmp, 1) := by decide +kernel
theorem d_law_710 : decode code 710 = .ok (.ifCond .eq 86, 3) := by decide +kernel
theorem d_law_713 : decode code 713 = .ok (.iconst 0, 1) := by decide +kernel
theorem d_law_714 : decode code 714 = .ok (.ireturn, 1) := by decide +kernel
theorem d_law_715 : decode code 715 = .ok (.aload_n 1, 1) := by decide +kernel
theorem d_law_716 : decode code 716 = .ok (.aload_n 0, 1) := by decide +kernel
theorem d_law_717 : decode code 717 = .ok (.iload_n 3, 1) := by decide +kernel
theorem d_law_718 : decode code 718 = .ok (.iconst 1, 1) := by decide +kernel
theorem d_law_719 : decode code 719 = .ok (.iadd, 1) := by decide +kernel
theorem d_law_720 : decode code 720 = .ok (.iaload, 1) := by decide +kernel
theorem d_law_721 : decode code 721 = .ok (.invokevirtual 82, 3) := by decide +kernel
theorem d_law_724 : decode code 724 = .ok (.aload_n 2, 1) := by decide +kernel
theorem d_law_725 : decode code 725 = .ok (.aload_n 0, 1) := by decide +kernel
theorem d_law_726 : decode code 726 = .ok (.iload_n 3, 1) := by decide +kernel
theorem d_law_727 : decode code 727 = .ok (.iconst 1, 1) := by decide +kernel
theorem d_law_728 : decode code 728 = .ok (.iadd, 1) := by decide +kernel
theorem d_law_729 : decode code 729 = .ok (.iaload, 1) := by decide +kernel
theorem d_law_730 : decode code 730 = .ok (.invokevirtual 85, 3) := by decide +kernel
theorem d_law_733 : decode code 733 = .ok (.lcmp, 1) := by decide +kernel
theorem d_law_734 : decode code 734 = .ok (.ifCond .eq 62, 3) := by decide +kernel
theorem d_law_737 : decode code 737 = .ok (.iconst 0, 1) := by decide +kernel
theorem d_law_738 : decode code 738 = .ok (.ireturn, 1) := by decide +kernel
theorem d_law_739 : decode code 739 = .ok (.aload_n 1, 1) := by decide +kernel
theorem d_law_740 : decode code 740 = .ok (.aload_n 0, 1) := by decide +kernel
theorem d_law_741 : decode code 741 = .ok (.iload_n 3, 1) := by decide +kernel
theorem d_law_742 : decode code 742 = .ok (.iconst 1, 1) := by decide +kernel
theorem d_law_743 : decode code 743 = .ok (.iadd, 1) := by decide +kernel
theorem d_law_744 : decode code 744 = .ok (.iaload, 1) := by decide +kernel
theorem d_law_745 : decode code 745 = .ok (.invokevirtual 86, 3) := by decide +kernel
theorem d_law_748 : decode code 748 = .ok (.aload_n 2, 1) := by decide +kernel
theorem d_law_749 : decode code 749 = .ok (.aload_n 0, 1) := by decide +kernel
theorem d_law_750 : decode code 750 = .ok (.iload_n 3, 1) := by decide +kernel
theorem d_law_751 : decode code 751 = .ok (.iconst 1, 1) := by decide +kernel
theorem d_law_752 : decode code 752 = .ok (.iadd, 1) := by decide +kernel
theorem d_law_753 : decode code 753 = .ok (.iaload, 1) := by decide +kernel
theorem d_law_754 : decode code 754 = .ok (.invokevirtual 89, 3) := by decide +kernel
theorem d_law_757 : decode code 757 = .ok (.if_icmp .eq 39, 3) := by decide +kernel
theorem d_law_760 : decode code 760 = .ok (.iconst 0, 1) := by decide +kernel
theorem d_law_761 : decode code 761 = .ok (.ireturn, 1) := by decide +kernel
theorem d_law_762 : decode code 762 = .ok (.aload_n 1, 1) := by decide +kernel
theorem d_law_763 : decode code 763 = .ok (.aload_n 0, 1) := by decide +kernel
theorem d_law_764 : decode code 764 = .ok (.iload_n 3, 1) := by decide +kernel
theorem d_law_765 : decode code 765 = .ok (.iconst 1, 1) := by decide +kernel
theorem d_law_766 : decode code 766 = .ok (.iadd, 1) := by decide +kernel
theorem d_law_767 : decode code 767 = .ok (.iaload, 1) := by decide +kernel
theorem d_law_768 : decode code 768 = .ok (.aload_n 0, 1) := by decide +kernel
theorem d_law_769 : decode code 769 = .ok (.iload_n 3, 1) := by decide +kernel
theorem d_law_770 : decode code 770 = .ok (.iconst 2, 1) := by decide +kernel
theorem d_law_771 : decode code 771 = .ok (.iadd, 1) := by decide +kernel
theorem d_law_772 : decode code 772 = .ok (.iaload, 1) := by decide +kernel
theorem d_law_773 : decode code 773 = .ok (.invokevirtual 90, 3) := by decide +kernel
theorem d_law_776 : decode code 776 = .ok (.aload_n 2, 1) := by decide +kernel
theorem d_law_777 : decode code 777 = .ok (.aload_n 0, 1) := by decide +kernel
theorem d_law_778 : decode code 778 = .ok (.iload_n 3, 1) := by decide +kernel
theorem d_law_779 : decode code 779 = .ok (.iconst 1, 1) := by decide +kernel
theorem d_law_780 : decode code 780 = .ok (.iadd, 1) := by decide +kernel
theorem d_law_781 : decode code 781 = .ok (.iaload, 1) := by decide +kernel
theorem d_law_782 : decode code 782 = .ok (.aload_n 0, 1) := by decide +kernel
theorem d_law_783 : decode code 783 = .ok (.iload_n 3, 1) := by decide +kernel
theorem d_law_784 : decode code 784 = .ok (.iconst 2, 1) := by decide +kernel
theorem d_law_785 : decode code 785 = .ok (.iadd, 1) := by decide +kernel
theorem d_law_786 : decode code 786 = .ok (.iaload, 1) := by decide +kernel
theorem d_law_787 : decode code 787 = .ok (.invokevirtual 93, 3) := by decide +kernel
theorem d_law_790 : decode code 790 = .ok (.lcmp, 1) := by decide +kernel
theorem d_law_791 : decode code 791 = .ok (.ifCond .eq 5, 3) := by decide +kernel
theorem d_law_794 : decode code 794 = .ok (.iconst 0, 1) := by decide +kernel
theorem d_law_795 : decode code 795 = .ok (.ireturn, 1) := by decide +kernel
theorem d_law_796 : decode code 796 = .ok (.iinc 3 6, 3) := by decide +kernel
theorem d_law_799 : decode code 799 = .ok (.goto (-781), 3) := by decide +kernel
theorem d_law_802 : decode code 802 = .ok (.iconst 1, 1) := by decide +kernel
theorem d_law_803 : decode code 803 = .ok (.ireturn, 1) := by decide +kernel
