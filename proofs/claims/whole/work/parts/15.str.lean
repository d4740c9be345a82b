/-! the class's texts and Arrays.copyOf: contracts of the library's own code -/
theorem js_cmp : Cond.fieldLink RJ0 38 "java/lang/String" "COMPACT_STRINGS" "Z" ∈ lw_tbl := jT_5 155 rfl
theorem js_val : Cond.fieldLink RJ0 9 "java/lang/String" "value" "[B" ∈ lw_tbl := jT_12 226 rfl
theorem js_cod : Cond.fieldLink RJ0 15 "java/lang/String" "coder" "B" ∈ lw_tbl := jT_12 227 rfl
theorem js_fmt : Cond.fieldLink RJ0 1053 "jdk/internal/util/Preconditions" "SIOOBE_FORMATTER" "Ljava/util/function/BiFunction;" ∈ lw_tbl := jT_5 171 rfl
theorem js_l59 : Cond.methodLink RJ0 1059 yJ3_checkIndex_8e157 ∈ lw_tbl := jT_5 173 rfl
theorem js_s59 : Cond.static yJ3_checkIndex_8e157 ∈ lw_tbl := jT_5 174 rfl
theorem js_c59 : Cond.code yJ3_checkIndex_8e157 cJ3_checkIndex_8e157 3 (some .int) ∈ lw_tbl := jT_5 175 rfl
theorem js_i59 : Cond.initialized RJ3 ∈ lw_tbl := jT_1 17 rfl
theorem js_k1 : Cond.methodLink RJ7 316 ⟨"[I", "clone", "()Ljava/lang/Object;"⟩ ∈ lw_tbl := jT_6 43 rfl
theorem js_k2 : Cond.sameMethod "[I" "java/lang/Object" "clone" "()Ljava/lang/Object;" ∈ lw_tbl := jT_6 44 rfl
theorem js_k3 : Cond.native ⟨"java/lang/Object", "clone", "()Ljava/lang/Object;"⟩ ∈ lw_tbl := jT_6 45 rfl
theorem js_k4 : Cond.instanceMethod ⟨"java/lang/Object", "clone", "()Ljava/lang/Object;"⟩ ∈ lw_tbl := jT_6 46 rfl
theorem js_k5 : Cond.selects "[I" ⟨"[I", "clone", "()Ljava/lang/Object;"⟩ ⟨"java/lang/Object", "clone", "()Ljava/lang/Object;"⟩ ∈ lw_tbl := jT_6 47 rfl
theorem js_k6 : Cond.classLink RJ7 317 "[I" ∈ lw_tbl := jT_6 49 rfl
theorem js_k7 : Cond.arrayClass (newarray.typeOf .int) ∈ lw_tbl := jT_1 63 rfl
def m_J3_checkIndex : jM := (22, yJ3_checkIndex_8e157, cJ3_checkIndex_8e157, 3, (some .int), [[(0, .iload_n 0, 1), (1, .ifCond .lt 8, 3), (4, .iload_n 0, 1), (5, .iload_n 1, 1), (6, .if_icmp .lt 10, 3), (16, .iload_n 0, 1), (17, .ireturn, 1)]])
theorem k_J3_checkIndex : jok m_J3_checkIndex := jokL_of (by decide +kernel)
theorem t_J3_checkIndex : jMt m_J3_checkIndex 3 := ⟨⟨js_c59, js_i59⟩, by decide +kernel, by decide +kernel, by decide +kernel⟩
theorem jin_ge {i : Int32} {N : Nat} (hN : N < 2 ^ 31) (hi : vp_in i N) : ¬ i < 0 ∧ i < nI N := by
  obtain ⟨h1, h2⟩ := jin_lt hi
  refine ⟨h1, ?_⟩
  have e : i = nI i.toNatClampNeg := by
    obtain ⟨q, hq, rfl⟩ := nI_of h1
    rw [nI_clamp hq]
  rw [e]
  exact nI_lt h2 hN
section R9
variable {h : jH} {Q : Option Value → jH → Prop}
theorem c_coder {i : Nat} (hi : i < 13) (hQ : Q (some (.int 0)) h) : jC m_J0_coder_7d493 0 0 0 [.ref (5 + i)] h Q := by
  refine jC.ofF (by decide +kernel) k_J0_coder_7d493 rfl ?_
  refine x_scmp rfl js_cmp ?_
  refine x_ifeq (tgt := 13) rfl rfl ⟨fun c => absurd c (by decide), fun _ => ?_⟩
  refine x_aloadn (x := 5 + i) rfl rfl ?_
  refine x_scod hi rfl js_cod ?_
  refine x_goto (tgt := 14) rfl rfl ?_
  exact x_nret rfl rfl rfl hQ
theorem c_latin {i : Nat} (hi : i < 13) (hQ : Q (some (.int 1)) h) : jC m_J0_isLatin1_aae02 0 0 0 [.ref (5 + i)] h Q := by
  refine jC.ofF (by decide +kernel) k_J0_isLatin1_aae02 rfl ?_
  refine x_scmp rfl js_cmp ?_
  refine x_ifeq (tgt := 17) rfl rfl ⟨fun c => absurd c (by decide), fun _ => ?_⟩
  refine x_aloadn (x := 5 + i) rfl rfl ?_
  refine x_scod hi rfl js_cod ?_
  refine x_ifne (tgt := 17) rfl rfl ⟨fun c => absurd rfl c, fun _ => ?_⟩
  refine x_iconst (v := 1) rfl (by decide) ?_
  refine x_goto (tgt := 18) rfl rfl ?_
  exact x_nret rfl rfl rfl hQ
theorem c_slen {i N : Nat} (hi : i < 13) (hN : N < 2 ^ 31) (hs : jsh h (18 + i) = (103, N)) (hQ : Q (some (.int (nI N))) h) : jC m_J0_length_8abf5 1 0 0 [.ref (5 + i)] h Q := by
  refine jC.ofF (by decide +kernel) k_J0_length_8abf5 rfl ?_
  refine x_aloadn (x := 5 + i) rfl rfl ?_
  refine x_sval hi rfl js_val ?_
  refine x_alen rfl hs (by decide) ?_
  refine x_aloadn (x := 5 + i) rfl rfl ?_
  refine x_invS (As := []) (dx9 := 0) hi rfl t_J0_coder_7d493 ⟨q_20_335, i_J0_coder_7d493.1, i_J0_coder_7d493.2⟩ rfl rfl (by decide) rfl rfl (c_coder hi ?_)
  refine x_ishr rfl ?_
  rw [sc_shr0 hN]
  exact x_iret rfl rfl hQ
theorem c_J3 {x : Int32} {N : Nat} (hN : N < 2 ^ 31) (hx : vp_in x N) (hQ : Q (some (.int x)) h) : jX m_J3_checkIndex 0 0 0 0 [(0, .int x), (1, .int (nI N))] [] h 0 0 Q := by
  refine x_iloadn (x := x) rfl rfl ?_
  refine x_iflt (tgt := 9) rfl rfl ⟨fun c => absurd c (jin_ge hN hx).1, fun _ => ?_⟩
  refine x_iloadn (x := x) rfl rfl ?_
  refine x_iloadn (x := nI N) rfl rfl ?_
  refine x_iclt (tgt := 16) rfl rfl ⟨fun _ => ?_, fun c => absurd (jin_ge hN hx).2 c⟩
  refine x_iloadn (x := x) rfl rfl ?_
  exact x_iret rfl rfl hQ
theorem c_J0chk {x : Int32} {N : Nat} (hN : N < 2 ^ 31) (hx : vp_in x N) (hQ : Q none h) : jC m_J0_checkIndex_df160 1 0 0 [.int x, .int (nI N)] h Q := by
  refine jC.ofF (by decide +kernel) k_J0_checkIndex_df160 rfl ?_
  refine x_iloadn (x := x) rfl rfl ?_
  refine x_iloadn (x := nI N) rfl rfl ?_
  refine x_chk (dx9 := 0) (N := m_J3_checkIndex) rfl rfl js_fmt t_J3_checkIndex ⟨js_l59, js_s59⟩ (by decide +kernel) k_J3_checkIndex (by decide) (by decide) rfl rfl (c_J3 hN hx ?_)
  refine x_pop rfl rfl ?_
  exact x_vret rfl rfl hQ
theorem c_J1char {a N : Nat} {x : Int32} (hN : N < 2 ^ 31) (hs : jsh h a = (103, N)) (hx : vp_in x N) (hQ : Q (some (.int (jiv h a x.toNatClampNeg &&& 255))) h) : jC m_J1_charAt_3b067 2 0 0 [.ref a, .int x] h Q := by
  refine jC.ofF (by decide +kernel) k_J1_charAt_3b067 rfl ?_
  refine x_iloadn (x := x) rfl rfl ?_
  refine x_aloadn (x := a) rfl rfl ?_
  refine x_alen rfl hs (by decide) ?_
  refine x_inst (N := m_J0_checkIndex_df160) (As := [.int x, .int (nI N)]) (st := []) (dx9 := 1) (mc := 0) (ms := 0) (host := "") rfl t_J0_checkIndex_df160 ⟨Or.inl q_21_9, s_J0_checkIndex_df160⟩ rfl (by decide) rfl rfl ⟨by decide, by decide⟩ (c_J0chk hN hx ?_)
  refine x_aloadn (x := a) rfl rfl ?_
  refine x_iloadn (x := x) rfl rfl ?_
  refine x_bald rfl hs hx ?_
  refine x_sipush (v := 255) rfl (by decide) ?_
  refine x_iand rfl ?_
  refine x_i2c rfl ?_
  rw [sc_c2]
  exact x_nret rfl rfl (sc_nar _) hQ
theorem c_schar {i N : Nat} {x : Int32} (hi : i < 13) (hN : N < 2 ^ 31) (hs : jsh h (18 + i) = (103, N)) (hx : vp_in x N) (hQ : Q (some (.int (jiv h (18 + i) x.toNatClampNeg &&& 255))) h) : jC m_J0_charAt_5068e 3 0 0 [.ref (5 + i), .int x] h Q := by
  refine jC.ofF (by decide +kernel) k_J0_charAt_5068e rfl ?_
  refine x_aloadn (x := 5 + i) rfl rfl ?_
  refine x_invS (As := []) (dx9 := 0) hi rfl t_J0_isLatin1_aae02 ⟨q_20_492, i_J0_isLatin1_aae02.1, i_J0_isLatin1_aae02.2⟩ rfl rfl (by decide) rfl rfl (c_latin hi ?_)
  refine x_ifeq (tgt := 16) rfl rfl ⟨fun c => absurd c (by decide), fun _ => ?_⟩
  refine x_aloadn (x := 5 + i) rfl rfl ?_
  refine x_sval hi rfl js_val ?_
  refine x_iloadn (x := x) rfl rfl ?_
  refine x_inst (N := m_J1_charAt_3b067) (As := [.ref (18 + i), .int x]) (st := []) (dx9 := 2) (mc := 0) (ms := 0) (host := "") rfl t_J1_charAt_3b067 ⟨Or.inl q_20_495, s_J1_charAt_3b067⟩ rfl (by decide) rfl rfl ⟨by decide, by decide⟩ (c_J1char hN hs hx ?_)
  exact x_nret rfl rfl (sc_nar _) hQ
/-- Arrays.copyOf of the first L ints of an array of N -/
theorem c_copyOf {a N L : Nat} (ha : Nat.ble 31 a = true) (hlt : a < jnx h) (hN : N < 2 ^ 20) (hs : jsh h a = (100, N)) (hL : L ≤ N) (hQ : Q (some (.ref (jnx h))) (jci (jnw h 100 L) a (jnx h) 0 0 L)) : jC m_J7_copyOf_59c91 1 1 L [.ref a, .int (nI L)] h Q := by
  have hx : jK0 ≤ jnx h := Nat.le_trans (Nat.ble_eq.mp ha) (Nat.le_of_lt hlt)
  have eL : (nI L).toNatClampNeg = L := nI_clamp (by omega)
  have e0 : (0 : Int32).toNatClampNeg = 0 := by decide
  refine jC.ofF (by decide +kernel) k_J7_copyOf_59c91 rfl ?_
  refine x_iloadn (x := nI L) rfl rfl ?_
  refine x_aloadn (x := a) rfl rfl ?_
  refine x_alen rfl hs (by decide) ?_
  refine x_icne (tgt := 14) rfl rfl ⟨fun c => ?_, fun c => ?_⟩
  · have hne : jnx h ≠ a := Nat.ne_of_gt hlt
    refine x_iloadn (x := nI L) rfl rfl ?_
    refine x_newa 100 rfl ⟨rfl, by decide, by decide⟩ js_k7 (fun q => nI_pos (by omega) q) (by rw [eL]; omega) ⟨Nat.le_refl _, by rw [eL]; omega⟩ ?_
    rw [eL]
    refine x_astoren (x := jnx h) rfl rfl rfl ?_
    refine x_aloadn (x := a) rfl rfl ?_
    refine x_iconst (v := 0) rfl (by decide) ?_
    refine x_aloadn (x := jnx h) rfl rfl ?_
    refine x_iconst (v := 0) rfl (by decide) ?_
    refine x_aloadn (x := a) rfl rfl ?_
    refine x_alen (N := N) (t := 100) rfl (by simp [jsh, jnw, Ne.symm hne]; exact hs) (by decide) ?_
    refine x_iloadn (x := nI L) rfl rfl ?_
    have key : jX m_J7_copyOf_59c91 1 1 L 28 [(2, .ref (jnx h)), (0, .ref a), (1, .int (nI L))] [.int (nI L), .int 0, .ref (jnx h), .int 0, .ref a] (jnw h 100 L) 1 (0 + L) Q := by
      refine x_cpi (N1 := N) (N2 := L) rfl ⟨q_25_150, jcp_w⟩ (by decide) rfl ha (Nat.ble_eq.mpr hx) (by simp [jsh, jnw, Ne.symm hne]; exact hs) (by simp [jsh, jnw]) (by decide) (by decide) (fun q => nI_pos (by omega) q) (by rw [e0, eL]; omega) (by rw [e0, eL]; omega) ?_
      rw [e0, eL]
      refine x_aloadn (x := jnx h) rfl rfl ?_
      exact x_aret rfl rfl rfl (Or.inr ⟨_, rfl⟩) hQ
    refine x_mmin rfl q_25_304 (by decide) rfl ⟨fun q => ?_, fun q => ?_⟩
    · exact key
    · have : nI N = nI L := by
        rcases Nat.lt_or_ge L N with g | g
        · exact absurd (nI_lt g (by omega)) q
        · rw [Nat.le_antisymm hL g]
      rw [this]
      exact key
  · have hLN : L = N := by
      have := congrArg Int32.toNatClampNeg c
      rw [eL, nI_clamp (by omega)] at this
      exact this
    subst hLN
    refine x_aloadn (x := a) rfl rfl ?_
    refine x_clone rfl ⟨js_k1, js_k2, js_k3, js_k4, js_k5⟩ (by decide) rfl ha hs ⟨Nat.le_refl _, by omega⟩ ?_
    refine x_castI (N := L) rfl js_k6 hx (by simp [jsh, jci, jnw]) ?_
    exact x_aret rfl rfl rfl (Or.inr ⟨_, rfl⟩) hQ
end R9
