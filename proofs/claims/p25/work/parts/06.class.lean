/-! what the tables say of each class -/
theorem jmem_p {big ws : List Cond} (ps : List Nat) (hp : ws = ps.filterMap (fun i => big[i]?)) : ∀ w ∈ ws, w ∈ big := by
  intro w hw
  rw [hp] at hw
  obtain ⟨i, -, hi⟩ := List.mem_filterMap.mp hw
  exact List.mem_of_getElem? hi
def jCls (c : Nat) (q : vw_C) : Prop := (∀ w ∈ u_ws q.1 q.2.1 q.2.2, w ∈ lw_tbl) ∧ (∀ k, k < q.2.2 → parseFieldDescriptor (q.2.1 k).2.2.1 = some (jft c k)) ∧ ∀ a, a < q.2.2 → ∀ b, b < q.2.2 → a ≠ b → (q.2.1 a).2.1 ≠ (q.2.1 b).2.1
theorem jw_0 : ∀ w ∈ u_ws RX0 TX0 16, w ∈ lw_tbl := jmem_p [614, 616, 618, 620, 622, 624, 626, 628, 630, 632, 634, 636, 638, 640, 642, 644] (by decide +kernel)
theorem jw_1 : ∀ w ∈ u_ws RX1 TX1 20, w ∈ lw_tbl := jmem_p [329, 331, 333, 335, 337, 339, 341, 343, 345, 347, 349, 351, 353, 355, 357, 359, 361, 363, 365, 367] (by decide +kernel)
theorem jw_2 : ∀ w ∈ u_ws RX2 TX2 6, w ∈ lw_tbl := jmem_p [571, 573, 575, 577, 579, 581] (by decide +kernel)
theorem jw_3 : ∀ w ∈ u_ws RX3 TX3 14, w ∈ lw_tbl := jmem_p [530, 532, 534, 536, 538, 540, 542, 544, 546, 548, 550, 552, 554, 556] (by decide +kernel)
theorem jw_4 : ∀ w ∈ u_ws RX4 TX4 18, w ∈ lw_tbl := jmem_p [676, 678, 680, 682, 684, 686, 688, 690, 692, 694, 696, 698, 700, 702, 704, 706, 708, 710] (by decide +kernel)
theorem jw_5 : ∀ w ∈ u_ws RX5 TX5 9, w ∈ lw_tbl := jmem_p [418, 420, 422, 424, 426, 428, 430, 432, 434] (by decide +kernel)
theorem jw_6 : ∀ w ∈ u_ws RX6 TX6 8, w ∈ lw_tbl := jmem_p [730, 732, 734, 736, 738, 740, 742, 744] (by decide +kernel)
theorem jw_7 : ∀ w ∈ u_ws RX7 TX7 16, w ∈ lw_tbl := jmem_p [473, 475, 477, 479, 481, 483, 485, 487, 489, 491, 493, 495, 497, 499, 501, 503] (by decide +kernel)
theorem jw_8 : ∀ w ∈ u_ws RX8 TX8 4, w ∈ lw_tbl := jmem_p [258, 260, 262, 264] (by decide +kernel)
theorem jw_9 : ∀ w ∈ u_ws RX9 TX9 6, w ∈ lw_tbl := jmem_p [388, 390, 392, 394, 396, 398] (by decide +kernel)
theorem jw_10 : ∀ w ∈ u_ws RX10 TX10 6, w ∈ lw_tbl := jmem_p [1475, 1477, 1479, 1481, 1483, 1485] (by decide +kernel)
theorem jw_11 : ∀ w ∈ u_ws RX11 TX11 13, w ∈ lw_tbl := jmem_p [760, 762, 764, 766, 768, 770, 772, 774, 776, 778, 780, 782, 784] (by decide +kernel)
theorem jw_12 : ∀ w ∈ u_ws RX12 TX12 92, w ∈ lw_tbl := jmem_p [2031, 2033, 2035, 2037, 2039, 2041, 2043, 2045, 2047, 2049, 2051, 2053, 2055, 2057, 2059, 2061, 2063, 2065, 2067, 2069, 2071, 2073, 2075, 2077, 2079, 2081, 2083, 2085, 2087, 2089, 2091, 2093, 2095, 2097, 2099, 2101, 2103, 2105, 2107, 2109, 2111, 2113, 2115, 2117, 2119, 2121, 2123, 2125, 2127, 2129, 2131, 2133, 2135, 2137, 2139, 2141, 2143, 2145, 2147, 2149, 2151, 2153, 2155, 2157, 2159, 2161, 2163, 2165, 2167, 2169, 2171, 2173, 2175, 2177, 2179, 2181, 2183, 2185, 2187, 2189, 2191, 2193, 2195, 2197, 2199, 2201, 2203, 2205, 2207, 2209, 2211, 2213] (by decide +kernel)
theorem jcls_ok : ∀ (c : Nat) (q : vw_C), vwCl[c]? = some q → jCls c q := by
  intro c q h
  match c, h with
  | 0, h => cases h; exact ⟨jw_0, tyX0_ok, nmX0⟩
  | 1, h => cases h; exact ⟨jw_1, tyX1_ok, nmX1⟩
  | 2, h => cases h; exact ⟨jw_2, tyX2_ok, nmX2⟩
  | 3, h => cases h; exact ⟨jw_3, tyX3_ok, nmX3⟩
  | 4, h => cases h; exact ⟨jw_4, tyX4_ok, nmX4⟩
  | 5, h => cases h; exact ⟨jw_5, tyX5_ok, nmX5⟩
  | 6, h => cases h; exact ⟨jw_6, tyX6_ok, nmX6⟩
  | 7, h => cases h; exact ⟨jw_7, tyX7_ok, nmX7⟩
  | 8, h => cases h; exact ⟨jw_8, tyX8_ok, nmX8⟩
  | 9, h => cases h; exact ⟨jw_9, tyX9_ok, nmX9⟩
  | 10, h => cases h; exact ⟨jw_10, tyX10_ok, nmX10⟩
  | 11, h => cases h; exact ⟨jw_11, tyX11_ok, nmX11⟩
  | 12, h => cases h; exact ⟨jw_12, tyX12_ok, nmX12⟩
  | n + 13, h => simp [vwCl] at h
theorem jtb_u {C : String} {T : u_T} {N : Nat} (h : ∀ w ∈ u_ws C T N, w ∈ lw_tbl) : ∀ w ∈ u_ws C T N, w ∈ jtb := by
  intro w hw
  refine jtb_of (h w hw) ?_
  obtain ⟨k, -, rfl⟩ := List.mem_map.mp hw
  unfold u_lay
  split <;> rfl
