/-! ===== numbers and reads for the simplifier ===== -/
theorem l_0 : (0 : Int32) = nI 0 := by decide
theorem l_1 : (1 : Int32) = nI 1 := by decide
theorem l_2 : (2 : Int32) = nI 2 := by decide
theorem l_3 : (3 : Int32) = nI 3 := by decide
theorem l_4 : (4 : Int32) = nI 4 := by decide
theorem l_5 : (5 : Int32) = nI 5 := by decide
theorem l_6 : (6 : Int32) = nI 6 := by decide
theorem l_7 : (7 : Int32) = nI 7 := by decide
theorem l_8 : (8 : Int32) = nI 8 := by decide
theorem l_9 : (9 : Int32) = nI 9 := by decide
theorem l_10 : (10 : Int32) = nI 10 := by decide
theorem l_11 : (11 : Int32) = nI 11 := by decide
theorem l_12 : (12 : Int32) = nI 12 := by decide
theorem l_13 : (13 : Int32) = nI 13 := by decide
theorem l_14 : (14 : Int32) = nI 14 := by decide
theorem l_15 : (15 : Int32) = nI 15 := by decide
theorem l_16 : (16 : Int32) = nI 16 := by decide
theorem l_17 : (17 : Int32) = nI 17 := by decide
theorem l_18 : (18 : Int32) = nI 18 := by decide
theorem l_19 : (19 : Int32) = nI 19 := by decide
theorem l_20 : (20 : Int32) = nI 20 := by decide
theorem l_21 : (21 : Int32) = nI 21 := by decide
theorem l_22 : (22 : Int32) = nI 22 := by decide
theorem l_23 : (23 : Int32) = nI 23 := by decide
theorem l_24 : (24 : Int32) = nI 24 := by decide
theorem l_25 : (25 : Int32) = nI 25 := by decide
theorem l_26 : (26 : Int32) = nI 26 := by decide
theorem l_27 : (27 : Int32) = nI 27 := by decide
theorem l_28 : (28 : Int32) = nI 28 := by decide
theorem l_29 : (29 : Int32) = nI 29 := by decide
theorem l_30 : (30 : Int32) = nI 30 := by decide
theorem l_31 : (31 : Int32) = nI 31 := by decide
theorem l_32 : (32 : Int32) = nI 32 := by decide
theorem l_33 : (33 : Int32) = nI 33 := by decide
theorem l_34 : (34 : Int32) = nI 34 := by decide
theorem l_35 : (35 : Int32) = nI 35 := by decide
theorem l_36 : (36 : Int32) = nI 36 := by decide
theorem l_37 : (37 : Int32) = nI 37 := by decide
theorem l_38 : (38 : Int32) = nI 38 := by decide
theorem l_39 : (39 : Int32) = nI 39 := by decide
theorem l_40 : (40 : Int32) = nI 40 := by decide
theorem l_41 : (41 : Int32) = nI 41 := by decide
theorem l_42 : (42 : Int32) = nI 42 := by decide
theorem l_43 : (43 : Int32) = nI 43 := by decide
theorem l_44 : (44 : Int32) = nI 44 := by decide
theorem l_45 : (45 : Int32) = nI 45 := by decide
theorem l_46 : (46 : Int32) = nI 46 := by decide
theorem l_47 : (47 : Int32) = nI 47 := by decide
theorem l_48 : (48 : Int32) = nI 48 := by decide
theorem l_49 : (49 : Int32) = nI 49 := by decide
theorem l_50 : (50 : Int32) = nI 50 := by decide
theorem l_51 : (51 : Int32) = nI 51 := by decide
theorem l_52 : (52 : Int32) = nI 52 := by decide
theorem l_53 : (53 : Int32) = nI 53 := by decide
theorem l_54 : (54 : Int32) = nI 54 := by decide
theorem l_55 : (55 : Int32) = nI 55 := by decide
theorem l_56 : (56 : Int32) = nI 56 := by decide
theorem l_57 : (57 : Int32) = nI 57 := by decide
theorem l_58 : (58 : Int32) = nI 58 := by decide
theorem l_59 : (59 : Int32) = nI 59 := by decide
theorem l_60 : (60 : Int32) = nI 60 := by decide
theorem l_61 : (61 : Int32) = nI 61 := by decide
theorem l_62 : (62 : Int32) = nI 62 := by decide
theorem l_63 : (63 : Int32) = nI 63 := by decide
theorem l_64 : (64 : Int32) = nI 64 := by decide
theorem l_65 : (65 : Int32) = nI 65 := by decide
theorem l_66 : (66 : Int32) = nI 66 := by decide
theorem l_67 : (67 : Int32) = nI 67 := by decide
theorem l_68 : (68 : Int32) = nI 68 := by decide
theorem l_69 : (69 : Int32) = nI 69 := by decide
theorem l_70 : (70 : Int32) = nI 70 := by decide
theorem l_71 : (71 : Int32) = nI 71 := by decide
theorem l_72 : (72 : Int32) = nI 72 := by decide
theorem l_73 : (73 : Int32) = nI 73 := by decide
theorem l_74 : (74 : Int32) = nI 74 := by decide
theorem l_75 : (75 : Int32) = nI 75 := by decide
theorem l_76 : (76 : Int32) = nI 76 := by decide
theorem l_77 : (77 : Int32) = nI 77 := by decide
theorem l_78 : (78 : Int32) = nI 78 := by decide
theorem l_79 : (79 : Int32) = nI 79 := by decide
theorem l_80 : (80 : Int32) = nI 80 := by decide
theorem l_81 : (81 : Int32) = nI 81 := by decide
theorem l_82 : (82 : Int32) = nI 82 := by decide
theorem l_83 : (83 : Int32) = nI 83 := by decide
theorem l_84 : (84 : Int32) = nI 84 := by decide
theorem l_85 : (85 : Int32) = nI 85 := by decide
theorem l_86 : (86 : Int32) = nI 86 := by decide
theorem l_87 : (87 : Int32) = nI 87 := by decide
theorem l_88 : (88 : Int32) = nI 88 := by decide
theorem l_89 : (89 : Int32) = nI 89 := by decide
theorem l_90 : (90 : Int32) = nI 90 := by decide
theorem l_91 : (91 : Int32) = nI 91 := by decide
theorem l_92 : (92 : Int32) = nI 92 := by decide
theorem l_93 : (93 : Int32) = nI 93 := by decide
theorem l_94 : (94 : Int32) = nI 94 := by decide
theorem l_95 : (95 : Int32) = nI 95 := by decide
theorem l_96 : (96 : Int32) = nI 96 := by decide
theorem l_97 : (97 : Int32) = nI 97 := by decide
theorem l_98 : (98 : Int32) = nI 98 := by decide
theorem l_99 : (99 : Int32) = nI 99 := by decide
theorem l_100 : (100 : Int32) = nI 100 := by decide
theorem l_101 : (101 : Int32) = nI 101 := by decide
theorem l_102 : (102 : Int32) = nI 102 := by decide
theorem l_103 : (103 : Int32) = nI 103 := by decide
theorem l_104 : (104 : Int32) = nI 104 := by decide
theorem l_105 : (105 : Int32) = nI 105 := by decide
theorem l_106 : (106 : Int32) = nI 106 := by decide
theorem l_107 : (107 : Int32) = nI 107 := by decide
theorem l_108 : (108 : Int32) = nI 108 := by decide
theorem l_109 : (109 : Int32) = nI 109 := by decide
theorem l_110 : (110 : Int32) = nI 110 := by decide
theorem l_111 : (111 : Int32) = nI 111 := by decide
theorem l_112 : (112 : Int32) = nI 112 := by decide
theorem l_113 : (113 : Int32) = nI 113 := by decide
theorem l_114 : (114 : Int32) = nI 114 := by decide
theorem l_115 : (115 : Int32) = nI 115 := by decide
theorem l_116 : (116 : Int32) = nI 116 := by decide
theorem l_117 : (117 : Int32) = nI 117 := by decide
theorem l_118 : (118 : Int32) = nI 118 := by decide
theorem l_119 : (119 : Int32) = nI 119 := by decide
theorem l_120 : (120 : Int32) = nI 120 := by decide
theorem l_121 : (121 : Int32) = nI 121 := by decide
theorem l_122 : (122 : Int32) = nI 122 := by decide
theorem l_123 : (123 : Int32) = nI 123 := by decide
theorem l_124 : (124 : Int32) = nI 124 := by decide
theorem l_125 : (125 : Int32) = nI 125 := by decide
theorem l_126 : (126 : Int32) = nI 126 := by decide
theorem l_127 : (127 : Int32) = nI 127 := by decide
theorem l_128 : (128 : Int32) = nI 128 := by decide
theorem l_129 : (129 : Int32) = nI 129 := by decide
theorem l_130 : (130 : Int32) = nI 130 := by decide
theorem l_256 : (256 : Int32) = nI 256 := by decide
theorem l_512 : (512 : Int32) = nI 512 := by decide
theorem l_676 : (676 : Int32) = nI 676 := by decide
theorem l_704 : (704 : Int32) = nI 704 := by decide
theorem l_999 : (999 : Int32) = nI 999 := by decide
theorem l_1000 : (1000 : Int32) = nI 1000 := by decide
theorem l_4096 : (4096 : Int32) = nI 4096 := by decide
theorem l_17576 : (17576 : Int32) = nI 17576 := by decide
theorem l_32768 : (32768 : Int32) = nI 32768 := by decide
theorem l_65535 : (65535 : Int32) = nI 65535 := by decide
theorem l_456975 : (456975 : Int32) = nI 456975 := by decide
theorem l_456976 : (456976 : Int32) = nI 456976 := by decide
def m1 : Int32 := -1
def m2 : Int32 := -2
theorem l_m1 : -(nI 1) = m1 := by decide
theorem l_m2 : -(nI 2) = m2 := by decide
theorem in_iff {i N : Nat} (hi : i < 2147483648) (hN : N < 2147483648) : vp_in (nI i) N ↔ i < N := by
  rw [vp_in_iff, nI_toInt (by omega)]; omega
theorem toInt_m1 : m1.toInt = -1 := by decide
theorem toInt_m2 : m2.toInt = -2 := by decide
theorem toInt_n {n : Nat} (h : n < 2147483648) : (nI n).toInt = (n : Int) := nI_toInt (by omega)
theorem eq_m1 {n : Nat} (h : n < 2147483648) : (nI n = m1) = False := by
  refine eq_false (fun q => ?_)
  have := congrArg Int32.toInt q
  rw [toInt_n h, toInt_m1] at this; omega
theorem m1_eq {n : Nat} (h : n < 2147483648) : (m1 = nI n) = False := by
  refine eq_false (fun q => ?_)
  have := congrArg Int32.toInt q
  rw [toInt_n h, toInt_m1] at this; omega
theorem m1_lt0 : (m1 < nI 0) = True := eq_true (by decide)
theorem m1_lt {n : Nat} (h : n < 2147483648) : (m1 < nI n) = True := by
  refine eq_true (Int32.lt_iff_toInt_lt.mpr ?_)
  rw [toInt_n h, toInt_m1]; omega
theorem m1_le {n : Nat} (h : n < 2147483648) : (m1 ≤ nI n) = True := by
  refine eq_true (Int32.le_iff_toInt_le.mpr ?_)
  rw [toInt_n h, toInt_m1]; omega
theorem le_m1 {n : Nat} (h : n < 2147483648) : (nI n ≤ m1) = False := by
  refine eq_false (fun q => ?_)
  have := Int32.le_iff_toInt_le.mp q
  rw [toInt_n h, toInt_m1] at this; omega
theorem lt_m1 {n : Nat} (h : n < 2147483648) : (nI n < m1) = False := by
  refine eq_false (fun q => ?_)
  have := Int32.lt_iff_toInt_lt.mp q
  rw [toInt_n h, toInt_m1] at this; omega
theorem eq_m2 {n : Nat} (h : n < 2147483648) : (nI n = m2) = False := by
  refine eq_false (fun q => ?_)
  have := congrArg Int32.toInt q
  rw [toInt_n h, toInt_m2] at this; omega
theorem m2_m1 : (m2 = m1) = False := eq_false (by decide)
theorem m1_m2 : (m1 = m2) = False := eq_false (by decide)
theorem add_m1 {n : Nat} (h : 1 ≤ n) : nI n + m1 = nI (n - 1) := by
  obtain ⟨k, rfl⟩ : ∃ k, n = k + 1 := ⟨n - 1, by omega⟩
  exact pk_m1 k
theorem m1_add : m1 + nI 1 = nI 0 := by decide
theorem sub_n {a b : Nat} (h : b ≤ a) : nI a - nI b = nI (a - b) := pk_sub h
theorem mul_n {a b : Nat} : nI a * nI b = nI (a * b) := pk_mul a b
theorem add_n {a b : Nat} : nI a + nI b = nI (a + b) := nI_add a b
theorem bo_n0 : bo (nI 0) := Or.inl rfl
theorem bo_n1 : bo (nI 1) := Or.inr rfl
theorem ch_n {n : Nat} (h : n < 65536) : ch (nI n) = True := eq_true (ch_nI h)
theorem lt_n {a b : Nat} (ha : a < 2147483648) (hb : b < 2147483648) : (nI a < nI b) = (a < b) := propext (nI_lt_iff ha hb)
theorem le_n {a b : Nat} (ha : a < 2147483648) (hb : b < 2147483648) : (nI a ≤ nI b) = (a ≤ b) := propext (nI_le_iff ha hb)
theorem eq_n {a b : Nat} (ha : a < 2147483648) (hb : b < 2147483648) : (nI a = nI b) = (a = b) := propext (nI_eq_iff ha hb)
theorem inb_n {i N : Nat} (h : i < N) (hN : N < 2147483648) : vp_in (nI i) N = True := eq_true (in_n h hN)
section Reads
variable {σ : PH} {f a j k n g b i : Nat} {x : Int32} {o : Option Nat} {y : Int64}
theorem gI_s : gI (pI σ f a x) f a = x := by rw [gI_pI, if_pos ⟨rfl, rfl⟩]
theorem gI_d (h : ¬ (g = f ∧ b = a)) : gI (pI σ f a x) g b = gI σ g b := by rw [gI_pI, if_neg h]
theorem gR_s : gR (pR σ f a o) f a = o := by rw [gR_pR, if_pos ⟨rfl, rfl⟩]
theorem gR_d (h : ¬ (g = f ∧ b = a)) : gR (pR σ f a o) g b = gR σ g b := by rw [gR_pR, if_neg h]
theorem eI_s : eI (uI σ a j x) a j = x := by rw [eI_uI, if_pos ⟨rfl, rfl⟩]
theorem eI_d (h : ¬ (b = a ∧ i = j)) : eI (uI σ a j x) b i = eI σ b i := by rw [eI_uI, if_neg h]
theorem eI_e (h : i = j) : eI (uI σ a j x) a i = x := by rw [eI_uI, if_pos ⟨rfl, h⟩]
theorem eR_s : eR (uR σ a j o) a j = o := by rw [eR_uR, if_pos ⟨rfl, rfl⟩]
theorem eR_d (h : ¬ (b = a ∧ i = j)) : eR (uR σ a j o) b i = eR σ b i := by rw [eR_uR, if_neg h]
theorem eR_e (h : i = j) : eR (uR σ a j o) a i = o := by rw [eR_uR, if_pos ⟨rfl, h⟩]
theorem eL_s : eL (uL σ a j y) a j = y := by rw [eL_uL, if_pos ⟨rfl, rfl⟩]
theorem eL_d (h : ¬ (b = a ∧ i = j)) : eL (uL σ a j y) b i = eL σ b i := by rw [eL_uL, if_neg h]
end Reads
theorem getD_mem {xs : List Nat} {i : Nat} (h : i < xs.length) : xs.getD i 0 ∈ xs := by
  rw [List.getD_eq_getElem?_getD, List.getElem?_eq_getElem h]
  exact List.getElem_mem h
theorem getD_snoc {xs : List Nat} {c i : Nat} : (xs ++ [c]).getD i 0 = if i < xs.length then xs.getD i 0 else if i = xs.length then c else 0 := by
  rw [List.getD_eq_getElem?_getD, List.getD_eq_getElem?_getD]
  split
  · rename_i h; rw [List.getElem?_append_left h]
  · rename_i h
    rw [List.getElem?_append_right (by omega)]
    split
    · rename_i h2; simp [h2]
    · rename_i h2; rw [List.getElem?_eq_none (by simp; omega)]; rfl
theorem if_tt {α : Sort _} {x y : α} : (if True then x else y) = x := if_pos trivial
theorem if_ff {α : Sort _} {x y : α} : (if False then x else y) = y := if_neg id
theorem if_p {α : Sort _} {c : Prop} [Decidable c] {x y : α} (h : c) : (if c then x else y) = x := if_pos h
theorem if_n {α : Sort _} {c : Prop} [Decidable c] {x y : α} (h : ¬ c) : (if c then x else y) = y := if_neg h
section Ks
variable {F : Int32 → PH → Prop} {G : PH → Prop} {Q : Option Nat → PH → Prop} {F0 F1 : PH → Prop} {K : PO → PH → Prop} {σ : PH} {r : Int32} {k a : Nat}
theorem kI_i : kI F K (.inl (some (.int r))) σ = F r σ := Eq.trans rfl rfl
theorem kI_x : kI F K (.inr k) σ = K (.inr k) σ := Eq.trans rfl rfl
theorem kV_v : kV G K (.inl none) σ = G σ := Eq.trans rfl rfl
theorem kV_x : kV G K (.inr k) σ = K (.inr k) σ := Eq.trans rfl rfl
theorem kR_r : kR Q K (.inl (some (.ref a))) σ = Q (some a) σ := Eq.trans rfl rfl
theorem kR_n : kR Q K (.inl (some .null)) σ = Q none σ := Eq.trans rfl rfl
theorem kR_x : kR Q K (.inr k) σ = K (.inr k) σ := Eq.trans rfl rfl
theorem kHI_i : kHI F F0 F1 (.inl (some (.int r))) σ = F r σ := Eq.trans rfl rfl
theorem kHI_0 : kHI F F0 F1 (.inr 0) σ = F0 σ := Eq.trans rfl rfl
theorem kHI_1 : kHI F F0 F1 (.inr 1) σ = F1 σ := Eq.trans rfl rfl
theorem kHV_v : kHV G F0 F1 (.inl none) σ = G σ := Eq.trans rfl rfl
theorem kHV_0 : kHV G F0 F1 (.inr 0) σ = F0 σ := Eq.trans rfl rfl
theorem kHV_1 : kHV G F0 F1 (.inr 1) σ = F1 σ := Eq.trans rfl rfl
theorem va_s : va_rf (some a) = .ref a := Eq.trans rfl rfl
theorem va_n : va_rf none = .null := Eq.trans rfl rfl
end Ks
