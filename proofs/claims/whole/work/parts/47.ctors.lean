abbrev kF_10 : List kv := [(3, 0), (3, 2), (3, 4), (3, 6), (3, 8), (3, 10), (3, 12), (3, 14), (3, 15), (3, 16), (3, 17), (0, 0), (0, 0)]
abbrev kC_10 : List kc := [.inl (8, [(0, 5), (0, 8), (3, 1), (0, 0)]), .inr (40, []), .inl (8, [(0, 5), (0, 12), (3, 3), (0, 0)]), .inr (60, []), .inl (8, [(0, 4), (0, 3), (3, 5), (0, 0)]), .inr (12, []), .inl (8, [(0, 4), (0, 8), (3, 7), (0, 0)]), .inr (32, []), .inl (8, [(0, 5), (0, 40), (3, 9), (0, 0)]), .inr (200, []), .inl (8, [(0, 2), (0, 16), (3, 11), (0, 0)]), .inr (32, []), .inl (8, [(0, 5), (0, 8), (3, 13), (0, 0)]), .inr (40, []), .inr (64, List.replicate 64 60), .inr (24, []), .inr (4, [4, 4, 11, 4]), .inr (12, [])]
set_option maxRecDepth 20000 in
theorem km_10 : KM yX10_init cX10_init 1 2 43 10 [(4, 0), (4, 0), (4, 0), (4, 0), (4, 0), (4, 0), (4, 0), (4, 0), (4, 0), (4, 0), (4, 0), (0, 0), (0, 0)] [] kF_10 kC_10 := by
  refine KM.of (own := RX10) (by decide +kernel) rfl rfl (by decide) ?_
  intro X hx hav hret
  refine KK.aload hx (j := 0) (i := 0) (by decide +kernel) rfl rfl (fun _ _ _ _ _ => ⟨_, rfl⟩) ?_
  refine KK.obj hx (idx := 3) (by decide +kernel) ol_10_3 oi_i oi_c (by decide) (by decide) ?_
  refine KK.aload hx (j := 0) (i := 0) (by decide +kernel) rfl rfl (fun _ _ _ _ _ => ⟨_, rfl⟩) ?_
  refine KK.new hx (idx := 9) (by decide +kernel) ck8 cl_10_9 it_8 in_8 [(0, 0), (0, 0), (4, 0), (0, 0)] rfl (hfs8) (by decide) (by decide) ?_
  show KW X 1 (some 10) 8 [some (1, 0)] [(3, 0), (1, 0)] [(4, 0), (4, 0), (4, 0), (4, 0), (4, 0), (4, 0), (4, 0), (4, 0), (4, 0), (4, 0), (4, 0), (0, 0), (0, 0)] [.inl (8, [(0, 0), (0, 0), (4, 0), (0, 0)])]
  refine KK.dup hx (by decide +kernel) (by decide) ?_
  refine KK.ic hx (n := 5) (by decide +kernel) ?_
  refine KK.bi hx (n := 8) (by decide +kernel) (by decide) ?_
  refine KK.call hx (idx := 11) (j0 := 0) (bs := [(0, 5), (0, 8)]) (km_8 5 8 (by decide) (by decide)) (by decide +kernel) wbi_8 kl_10_11 imi_8 rfl dsi_8 rfl rfl (fun _ _ _ _ => ⟨rfl, okl (by decide)⟩) (by decide) (fun _ _ _ => (show 1 + (1 + (0)) ≤ 8 by decide)) (by decide) (by decide) (by decide) (by decide) ?_
  show KW X 1 (some 10) 15 [some (1, 0)] [(3, 0), (1, 0)] [(4, 0), (4, 0), (4, 0), (4, 0), (4, 0), (4, 0), (4, 0), (4, 0), (4, 0), (4, 0), (4, 0), (0, 0), (0, 0)] [.inl (8, [(0, 5), (0, 8), (3, 1), (0, 0)]), .inr (40, [])]
  refine KK.pF hx (idx := 14) (j := 0) (q := (3, 0)) (by decide +kernel) ck10 (by decide) fl_10_14 rfl rfl (fun _ _ _ _ => ⟨rfl, rfl⟩) (by decide) ?_
  show KW X 1 (some 10) 18 [some (1, 0)] [] [(3, 0), (4, 0), (4, 0), (4, 0), (4, 0), (4, 0), (4, 0), (4, 0), (4, 0), (4, 0), (4, 0), (0, 0), (0, 0)] [.inl (8, [(0, 5), (0, 8), (3, 1), (0, 0)]), .inr (40, [])]
  refine KK.aload hx (j := 0) (i := 0) (by decide +kernel) rfl rfl (fun _ _ _ _ _ => ⟨_, rfl⟩) ?_
  refine KK.new hx (idx := 9) (by decide +kernel) ck8 cl_10_9 it_8 in_8 [(0, 0), (0, 0), (4, 0), (0, 0)] rfl (hfs8) (by decide) (by decide) ?_
  show KW X 1 (some 10) 22 [some (1, 0)] [(3, 2), (1, 0)] [(3, 0), (4, 0), (4, 0), (4, 0), (4, 0), (4, 0), (4, 0), (4, 0), (4, 0), (4, 0), (4, 0), (0, 0), (0, 0)] [.inl (8, [(0, 5), (0, 8), (3, 1), (0, 0)]), .inr (40, []), .inl (8, [(0, 0), (0, 0), (4, 0), (0, 0)])]
  refine KK.dup hx (by decide +kernel) (by decide) ?_
  refine KK.ic hx (n := 5) (by decide +kernel) ?_
  refine KK.bi hx (n := 12) (by decide +kernel) (by decide) ?_
  refine KK.call hx (idx := 11) (j0 := 2) (bs := [(0, 5), (0, 12)]) (km_8 5 12 (by decide) (by decide)) (by decide +kernel) wbi_8 kl_10_11 imi_8 rfl dsi_8 rfl rfl (fun _ _ _ _ => ⟨rfl, okl (by decide)⟩) (by decide) (fun _ _ _ => (show 1 + (1 + (0)) ≤ 8 by decide)) (by decide) (by decide) (by decide) (by decide) ?_
  show KW X 1 (some 10) 29 [some (1, 0)] [(3, 2), (1, 0)] [(3, 0), (4, 0), (4, 0), (4, 0), (4, 0), (4, 0), (4, 0), (4, 0), (4, 0), (4, 0), (4, 0), (0, 0), (0, 0)] [.inl (8, [(0, 5), (0, 8), (3, 1), (0, 0)]), .inr (40, []), .inl (8, [(0, 5), (0, 12), (3, 3), (0, 0)]), .inr (60, [])]
  refine KK.pF hx (idx := 20) (j := 1) (q := (3, 2)) (by decide +kernel) ck10 (by decide) fl_10_20 rfl rfl (fun _ _ _ _ => ⟨rfl, rfl⟩) (by decide) ?_
  show KW X 1 (some 10) 32 [some (1, 0)] [] [(3, 0), (3, 2), (4, 0), (4, 0), (4, 0), (4, 0), (4, 0), (4, 0), (4, 0), (4, 0), (4, 0), (0, 0), (0, 0)] [.inl (8, [(0, 5), (0, 8), (3, 1), (0, 0)]), .inr (40, []), .inl (8, [(0, 5), (0, 12), (3, 3), (0, 0)]), .inr (60, [])]
  refine KK.aload hx (j := 0) (i := 0) (by decide +kernel) rfl rfl (fun _ _ _ _ _ => ⟨_, rfl⟩) ?_
  refine KK.new hx (idx := 9) (by decide +kernel) ck8 cl_10_9 it_8 in_8 [(0, 0), (0, 0), (4, 0), (0, 0)] rfl (hfs8) (by decide) (by decide) ?_
  show KW X 1 (some 10) 36 [some (1, 0)] [(3, 4), (1, 0)] [(3, 0), (3, 2), (4, 0), (4, 0), (4, 0), (4, 0), (4, 0), (4, 0), (4, 0), (4, 0), (4, 0), (0, 0), (0, 0)] [.inl (8, [(0, 5), (0, 8), (3, 1), (0, 0)]), .inr (40, []), .inl (8, [(0, 5), (0, 12), (3, 3), (0, 0)]), .inr (60, []), .inl (8, [(0, 0), (0, 0), (4, 0), (0, 0)])]
  refine KK.dup hx (by decide +kernel) (by decide) ?_
  refine KK.ic hx (n := 4) (by decide +kernel) ?_
  refine KK.ic hx (n := 3) (by decide +kernel) ?_
  refine KK.call hx (idx := 11) (j0 := 4) (bs := [(0, 4), (0, 3)]) (km_8 4 3 (by decide) (by decide)) (by decide +kernel) wbi_8 kl_10_11 imi_8 rfl dsi_8 rfl rfl (fun _ _ _ _ => ⟨rfl, okl (by decide)⟩) (by decide) (fun _ _ _ => (show 1 + (1 + (0)) ≤ 8 by decide)) (by decide) (by decide) (by decide) (by decide) ?_
  show KW X 1 (some 10) 42 [some (1, 0)] [(3, 4), (1, 0)] [(3, 0), (3, 2), (4, 0), (4, 0), (4, 0), (4, 0), (4, 0), (4, 0), (4, 0), (4, 0), (4, 0), (0, 0), (0, 0)] [.inl (8, [(0, 5), (0, 8), (3, 1), (0, 0)]), .inr (40, []), .inl (8, [(0, 5), (0, 12), (3, 3), (0, 0)]), .inr (60, []), .inl (8, [(0, 4), (0, 3), (3, 5), (0, 0)]), .inr (12, [])]
  refine KK.pF hx (idx := 23) (j := 2) (q := (3, 4)) (by decide +kernel) ck10 (by decide) fl_10_23 rfl rfl (fun _ _ _ _ => ⟨rfl, rfl⟩) (by decide) ?_
  show KW X 1 (some 10) 45 [some (1, 0)] [] [(3, 0), (3, 2), (3, 4), (4, 0), (4, 0), (4, 0), (4, 0), (4, 0), (4, 0), (4, 0), (4, 0), (0, 0), (0, 0)] [.inl (8, [(0, 5), (0, 8), (3, 1), (0, 0)]), .inr (40, []), .inl (8, [(0, 5), (0, 12), (3, 3), (0, 0)]), .inr (60, []), .inl (8, [(0, 4), (0, 3), (3, 5), (0, 0)]), .inr (12, [])]
  refine KK.aload hx (j := 0) (i := 0) (by decide +kernel) rfl rfl (fun _ _ _ _ _ => ⟨_, rfl⟩) ?_
  refine KK.new hx (idx := 9) (by decide +kernel) ck8 cl_10_9 it_8 in_8 [(0, 0), (0, 0), (4, 0), (0, 0)] rfl (hfs8) (by decide) (by decide) ?_
  show KW X 1 (some 10) 49 [some (1, 0)] [(3, 6), (1, 0)] [(3, 0), (3, 2), (3, 4), (4, 0), (4, 0), (4, 0), (4, 0), (4, 0), (4, 0), (4, 0), (4, 0), (0, 0), (0, 0)] [.inl (8, [(0, 5), (0, 8), (3, 1), (0, 0)]), .inr (40, []), .inl (8, [(0, 5), (0, 12), (3, 3), (0, 0)]), .inr (60, []), .inl (8, [(0, 4), (0, 3), (3, 5), (0, 0)]), .inr (12, []), .inl (8, [(0, 0), (0, 0), (4, 0), (0, 0)])]
  refine KK.dup hx (by decide +kernel) (by decide) ?_
  refine KK.ic hx (n := 4) (by decide +kernel) ?_
  refine KK.bi hx (n := 8) (by decide +kernel) (by decide) ?_
  refine KK.call hx (idx := 11) (j0 := 6) (bs := [(0, 4), (0, 8)]) (km_8 4 8 (by decide) (by decide)) (by decide +kernel) wbi_8 kl_10_11 imi_8 rfl dsi_8 rfl rfl (fun _ _ _ _ => ⟨rfl, okl (by decide)⟩) (by decide) (fun _ _ _ => (show 1 + (1 + (0)) ≤ 8 by decide)) (by decide) (by decide) (by decide) (by decide) ?_
  show KW X 1 (some 10) 56 [some (1, 0)] [(3, 6), (1, 0)] [(3, 0), (3, 2), (3, 4), (4, 0), (4, 0), (4, 0), (4, 0), (4, 0), (4, 0), (4, 0), (4, 0), (0, 0), (0, 0)] [.inl (8, [(0, 5), (0, 8), (3, 1), (0, 0)]), .inr (40, []), .inl (8, [(0, 5), (0, 12), (3, 3), (0, 0)]), .inr (60, []), .inl (8, [(0, 4), (0, 3), (3, 5), (0, 0)]), .inr (12, []), .inl (8, [(0, 4), (0, 8), (3, 7), (0, 0)]), .inr (32, [])]
  refine KK.pF hx (idx := 26) (j := 3) (q := (3, 6)) (by decide +kernel) ck10 (by decide) fl_10_26 rfl rfl (fun _ _ _ _ => ⟨rfl, rfl⟩) (by decide) ?_
  show KW X 1 (some 10) 59 [some (1, 0)] [] [(3, 0), (3, 2), (3, 4), (3, 6), (4, 0), (4, 0), (4, 0), (4, 0), (4, 0), (4, 0), (4, 0), (0, 0), (0, 0)] [.inl (8, [(0, 5), (0, 8), (3, 1), (0, 0)]), .inr (40, []), .inl (8, [(0, 5), (0, 12), (3, 3), (0, 0)]), .inr (60, []), .inl (8, [(0, 4), (0, 3), (3, 5), (0, 0)]), .inr (12, []), .inl (8, [(0, 4), (0, 8), (3, 7), (0, 0)]), .inr (32, [])]
  refine KK.aload hx (j := 0) (i := 0) (by decide +kernel) rfl rfl (fun _ _ _ _ _ => ⟨_, rfl⟩) ?_
  refine KK.new hx (idx := 9) (by decide +kernel) ck8 cl_10_9 it_8 in_8 [(0, 0), (0, 0), (4, 0), (0, 0)] rfl (hfs8) (by decide) (by decide) ?_
  show KW X 1 (some 10) 63 [some (1, 0)] [(3, 8), (1, 0)] [(3, 0), (3, 2), (3, 4), (3, 6), (4, 0), (4, 0), (4, 0), (4, 0), (4, 0), (4, 0), (4, 0), (0, 0), (0, 0)] [.inl (8, [(0, 5), (0, 8), (3, 1), (0, 0)]), .inr (40, []), .inl (8, [(0, 5), (0, 12), (3, 3), (0, 0)]), .inr (60, []), .inl (8, [(0, 4), (0, 3), (3, 5), (0, 0)]), .inr (12, []), .inl (8, [(0, 4), (0, 8), (3, 7), (0, 0)]), .inr (32, []), .inl (8, [(0, 0), (0, 0), (4, 0), (0, 0)])]
  refine KK.dup hx (by decide +kernel) (by decide) ?_
  refine KK.ic hx (n := 5) (by decide +kernel) ?_
  refine KK.bi hx (n := 40) (by decide +kernel) (by decide) ?_
  refine KK.call hx (idx := 11) (j0 := 8) (bs := [(0, 5), (0, 40)]) (km_8 5 40 (by decide) (by decide)) (by decide +kernel) wbi_8 kl_10_11 imi_8 rfl dsi_8 rfl rfl (fun _ _ _ _ => ⟨rfl, okl (by decide)⟩) (by decide) (fun _ _ _ => (show 1 + (1 + (0)) ≤ 8 by decide)) (by decide) (by decide) (by decide) (by decide) ?_
  show KW X 1 (some 10) 70 [some (1, 0)] [(3, 8), (1, 0)] [(3, 0), (3, 2), (3, 4), (3, 6), (4, 0), (4, 0), (4, 0), (4, 0), (4, 0), (4, 0), (4, 0), (0, 0), (0, 0)] [.inl (8, [(0, 5), (0, 8), (3, 1), (0, 0)]), .inr (40, []), .inl (8, [(0, 5), (0, 12), (3, 3), (0, 0)]), .inr (60, []), .inl (8, [(0, 4), (0, 3), (3, 5), (0, 0)]), .inr (12, []), .inl (8, [(0, 4), (0, 8), (3, 7), (0, 0)]), .inr (32, []), .inl (8, [(0, 5), (0, 40), (3, 9), (0, 0)]), .inr (200, [])]
  refine KK.pF hx (idx := 29) (j := 4) (q := (3, 8)) (by decide +kernel) ck10 (by decide) fl_10_29 rfl rfl (fun _ _ _ _ => ⟨rfl, rfl⟩) (by decide) ?_
  show KW X 1 (some 10) 73 [some (1, 0)] [] [(3, 0), (3, 2), (3, 4), (3, 6), (3, 8), (4, 0), (4, 0), (4, 0), (4, 0), (4, 0), (4, 0), (0, 0), (0, 0)] [.inl (8, [(0, 5), (0, 8), (3, 1), (0, 0)]), .inr (40, []), .inl (8, [(0, 5), (0, 12), (3, 3), (0, 0)]), .inr (60, []), .inl (8, [(0, 4), (0, 3), (3, 5), (0, 0)]), .inr (12, []), .inl (8, [(0, 4), (0, 8), (3, 7), (0, 0)]), .inr (32, []), .inl (8, [(0, 5), (0, 40), (3, 9), (0, 0)]), .inr (200, [])]
  refine KK.aload hx (j := 0) (i := 0) (by decide +kernel) rfl rfl (fun _ _ _ _ _ => ⟨_, rfl⟩) ?_
  refine KK.new hx (idx := 9) (by decide +kernel) ck8 cl_10_9 it_8 in_8 [(0, 0), (0, 0), (4, 0), (0, 0)] rfl (hfs8) (by decide) (by decide) ?_
  show KW X 1 (some 10) 77 [some (1, 0)] [(3, 10), (1, 0)] [(3, 0), (3, 2), (3, 4), (3, 6), (3, 8), (4, 0), (4, 0), (4, 0), (4, 0), (4, 0), (4, 0), (0, 0), (0, 0)] [.inl (8, [(0, 5), (0, 8), (3, 1), (0, 0)]), .inr (40, []), .inl (8, [(0, 5), (0, 12), (3, 3), (0, 0)]), .inr (60, []), .inl (8, [(0, 4), (0, 3), (3, 5), (0, 0)]), .inr (12, []), .inl (8, [(0, 4), (0, 8), (3, 7), (0, 0)]), .inr (32, []), .inl (8, [(0, 5), (0, 40), (3, 9), (0, 0)]), .inr (200, []), .inl (8, [(0, 0), (0, 0), (4, 0), (0, 0)])]
  refine KK.dup hx (by decide +kernel) (by decide) ?_
  refine KK.ic hx (n := 2) (by decide +kernel) ?_
  refine KK.bi hx (n := 16) (by decide +kernel) (by decide) ?_
  refine KK.call hx (idx := 11) (j0 := 10) (bs := [(0, 2), (0, 16)]) (km_8 2 16 (by decide) (by decide)) (by decide +kernel) wbi_8 kl_10_11 imi_8 rfl dsi_8 rfl rfl (fun _ _ _ _ => ⟨rfl, okl (by decide)⟩) (by decide) (fun _ _ _ => (show 1 + (1 + (0)) ≤ 8 by decide)) (by decide) (by decide) (by decide) (by decide) ?_
  show KW X 1 (some 10) 84 [some (1, 0)] [(3, 10), (1, 0)] [(3, 0), (3, 2), (3, 4), (3, 6), (3, 8), (4, 0), (4, 0), (4, 0), (4, 0), (4, 0), (4, 0), (0, 0), (0, 0)] [.inl (8, [(0, 5), (0, 8), (3, 1), (0, 0)]), .inr (40, []), .inl (8, [(0, 5), (0, 12), (3, 3), (0, 0)]), .inr (60, []), .inl (8, [(0, 4), (0, 3), (3, 5), (0, 0)]), .inr (12, []), .inl (8, [(0, 4), (0, 8), (3, 7), (0, 0)]), .inr (32, []), .inl (8, [(0, 5), (0, 40), (3, 9), (0, 0)]), .inr (200, []), .inl (8, [(0, 2), (0, 16), (3, 11), (0, 0)]), .inr (32, [])]
  refine KK.pF hx (idx := 32) (j := 5) (q := (3, 10)) (by decide +kernel) ck10 (by decide) fl_10_32 rfl rfl (fun _ _ _ _ => ⟨rfl, rfl⟩) (by decide) ?_
  show KW X 1 (some 10) 87 [some (1, 0)] [] [(3, 0), (3, 2), (3, 4), (3, 6), (3, 8), (3, 10), (4, 0), (4, 0), (4, 0), (4, 0), (4, 0), (0, 0), (0, 0)] [.inl (8, [(0, 5), (0, 8), (3, 1), (0, 0)]), .inr (40, []), .inl (8, [(0, 5), (0, 12), (3, 3), (0, 0)]), .inr (60, []), .inl (8, [(0, 4), (0, 3), (3, 5), (0, 0)]), .inr (12, []), .inl (8, [(0, 4), (0, 8), (3, 7), (0, 0)]), .inr (32, []), .inl (8, [(0, 5), (0, 40), (3, 9), (0, 0)]), .inr (200, []), .inl (8, [(0, 2), (0, 16), (3, 11), (0, 0)]), .inr (32, [])]
  refine KK.aload hx (j := 0) (i := 0) (by decide +kernel) rfl rfl (fun _ _ _ _ _ => ⟨_, rfl⟩) ?_
  refine KK.new hx (idx := 9) (by decide +kernel) ck8 cl_10_9 it_8 in_8 [(0, 0), (0, 0), (4, 0), (0, 0)] rfl (hfs8) (by decide) (by decide) ?_
  show KW X 1 (some 10) 91 [some (1, 0)] [(3, 12), (1, 0)] [(3, 0), (3, 2), (3, 4), (3, 6), (3, 8), (3, 10), (4, 0), (4, 0), (4, 0), (4, 0), (4, 0), (0, 0), (0, 0)] [.inl (8, [(0, 5), (0, 8), (3, 1), (0, 0)]), .inr (40, []), .inl (8, [(0, 5), (0, 12), (3, 3), (0, 0)]), .inr (60, []), .inl (8, [(0, 4), (0, 3), (3, 5), (0, 0)]), .inr (12, []), .inl (8, [(0, 4), (0, 8), (3, 7), (0, 0)]), .inr (32, []), .inl (8, [(0, 5), (0, 40), (3, 9), (0, 0)]), .inr (200, []), .inl (8, [(0, 2), (0, 16), (3, 11), (0, 0)]), .inr (32, []), .inl (8, [(0, 0), (0, 0), (4, 0), (0, 0)])]
  refine KK.dup hx (by decide +kernel) (by decide) ?_
  refine KK.ic hx (n := 5) (by decide +kernel) ?_
  refine KK.bi hx (n := 8) (by decide +kernel) (by decide) ?_
  refine KK.call hx (idx := 11) (j0 := 12) (bs := [(0, 5), (0, 8)]) (km_8 5 8 (by decide) (by decide)) (by decide +kernel) wbi_8 kl_10_11 imi_8 rfl dsi_8 rfl rfl (fun _ _ _ _ => ⟨rfl, okl (by decide)⟩) (by decide) (fun _ _ _ => (show 1 + (1 + (0)) ≤ 8 by decide)) (by decide) (by decide) (by decide) (by decide) ?_
  show KW X 1 (some 10) 98 [some (1, 0)] [(3, 12), (1, 0)] [(3, 0), (3, 2), (3, 4), (3, 6), (3, 8), (3, 10), (4, 0), (4, 0), (4, 0), (4, 0), (4, 0), (0, 0), (0, 0)] [.inl (8, [(0, 5), (0, 8), (3, 1), (0, 0)]), .inr (40, []), .inl (8, [(0, 5), (0, 12), (3, 3), (0, 0)]), .inr (60, []), .inl (8, [(0, 4), (0, 3), (3, 5), (0, 0)]), .inr (12, []), .inl (8, [(0, 4), (0, 8), (3, 7), (0, 0)]), .inr (32, []), .inl (8, [(0, 5), (0, 40), (3, 9), (0, 0)]), .inr (200, []), .inl (8, [(0, 2), (0, 16), (3, 11), (0, 0)]), .inr (32, []), .inl (8, [(0, 5), (0, 8), (3, 13), (0, 0)]), .inr (40, [])]
  refine KK.pF hx (idx := 35) (j := 6) (q := (3, 12)) (by decide +kernel) ck10 (by decide) fl_10_35 rfl rfl (fun _ _ _ _ => ⟨rfl, rfl⟩) (by decide) ?_
  show KW X 1 (some 10) 101 [some (1, 0)] [] [(3, 0), (3, 2), (3, 4), (3, 6), (3, 8), (3, 10), (3, 12), (4, 0), (4, 0), (4, 0), (4, 0), (0, 0), (0, 0)] [.inl (8, [(0, 5), (0, 8), (3, 1), (0, 0)]), .inr (40, []), .inl (8, [(0, 5), (0, 12), (3, 3), (0, 0)]), .inr (60, []), .inl (8, [(0, 4), (0, 3), (3, 5), (0, 0)]), .inr (12, []), .inl (8, [(0, 4), (0, 8), (3, 7), (0, 0)]), .inr (32, []), .inl (8, [(0, 5), (0, 40), (3, 9), (0, 0)]), .inr (200, []), .inl (8, [(0, 2), (0, 16), (3, 11), (0, 0)]), .inr (32, []), .inl (8, [(0, 5), (0, 8), (3, 13), (0, 0)]), .inr (40, [])]
  refine KK.aload hx (j := 0) (i := 0) (by decide +kernel) rfl rfl (fun _ _ _ _ _ => ⟨_, rfl⟩) ?_
  refine KK.bi hx (n := 64) (by decide +kernel) (by decide) ?_
  refine KK.newa hx (N := 64) (by decide +kernel) wac rfl (by decide) (by decide) (by decide) ?_
  show KW X 1 (some 10) 106 [some (1, 0)] [(3, 14), (1, 0)] [(3, 0), (3, 2), (3, 4), (3, 6), (3, 8), (3, 10), (3, 12), (4, 0), (4, 0), (4, 0), (4, 0), (0, 0), (0, 0)] [.inl (8, [(0, 5), (0, 8), (3, 1), (0, 0)]), .inr (40, []), .inl (8, [(0, 5), (0, 12), (3, 3), (0, 0)]), .inr (60, []), .inl (8, [(0, 4), (0, 3), (3, 5), (0, 0)]), .inr (12, []), .inl (8, [(0, 4), (0, 8), (3, 7), (0, 0)]), .inr (32, []), .inl (8, [(0, 5), (0, 40), (3, 9), (0, 0)]), .inr (200, []), .inl (8, [(0, 2), (0, 16), (3, 11), (0, 0)]), .inr (32, []), .inl (8, [(0, 5), (0, 8), (3, 13), (0, 0)]), .inr (40, []), .inr (64, [])]
  refine KK.pF hx (idx := 38) (j := 7) (q := (3, 14)) (by decide +kernel) ck10 (by decide) fl_10_38 rfl rfl (fun _ _ _ _ => ⟨rfl, rfl⟩) (by decide) ?_
  show KW X 1 (some 10) 109 [some (1, 0)] [] [(3, 0), (3, 2), (3, 4), (3, 6), (3, 8), (3, 10), (3, 12), (3, 14), (4, 0), (4, 0), (4, 0), (0, 0), (0, 0)] [.inl (8, [(0, 5), (0, 8), (3, 1), (0, 0)]), .inr (40, []), .inl (8, [(0, 5), (0, 12), (3, 3), (0, 0)]), .inr (60, []), .inl (8, [(0, 4), (0, 3), (3, 5), (0, 0)]), .inr (12, []), .inl (8, [(0, 4), (0, 8), (3, 7), (0, 0)]), .inr (32, []), .inl (8, [(0, 5), (0, 40), (3, 9), (0, 0)]), .inr (200, []), .inl (8, [(0, 2), (0, 16), (3, 11), (0, 0)]), .inr (32, []), .inl (8, [(0, 5), (0, 8), (3, 13), (0, 0)]), .inr (40, []), .inr (64, [])]
  refine KK.aload hx (j := 0) (i := 0) (by decide +kernel) rfl rfl (fun _ _ _ _ _ => ⟨_, rfl⟩) ?_
  refine KK.bi hx (n := 24) (by decide +kernel) (by decide) ?_
  refine KK.newa hx (N := 24) (by decide +kernel) wac rfl (by decide) (by decide) (by decide) ?_
  show KW X 1 (some 10) 114 [some (1, 0)] [(3, 15), (1, 0)] [(3, 0), (3, 2), (3, 4), (3, 6), (3, 8), (3, 10), (3, 12), (3, 14), (4, 0), (4, 0), (4, 0), (0, 0), (0, 0)] [.inl (8, [(0, 5), (0, 8), (3, 1), (0, 0)]), .inr (40, []), .inl (8, [(0, 5), (0, 12), (3, 3), (0, 0)]), .inr (60, []), .inl (8, [(0, 4), (0, 3), (3, 5), (0, 0)]), .inr (12, []), .inl (8, [(0, 4), (0, 8), (3, 7), (0, 0)]), .inr (32, []), .inl (8, [(0, 5), (0, 40), (3, 9), (0, 0)]), .inr (200, []), .inl (8, [(0, 2), (0, 16), (3, 11), (0, 0)]), .inr (32, []), .inl (8, [(0, 5), (0, 8), (3, 13), (0, 0)]), .inr (40, []), .inr (64, []), .inr (24, [])]
  refine KK.pF hx (idx := 42) (j := 8) (q := (3, 15)) (by decide +kernel) ck10 (by decide) fl_10_42 rfl rfl (fun _ _ _ _ => ⟨rfl, rfl⟩) (by decide) ?_
  show KW X 1 (some 10) 117 [some (1, 0)] [] [(3, 0), (3, 2), (3, 4), (3, 6), (3, 8), (3, 10), (3, 12), (3, 14), (3, 15), (4, 0), (4, 0), (0, 0), (0, 0)] [.inl (8, [(0, 5), (0, 8), (3, 1), (0, 0)]), .inr (40, []), .inl (8, [(0, 5), (0, 12), (3, 3), (0, 0)]), .inr (60, []), .inl (8, [(0, 4), (0, 3), (3, 5), (0, 0)]), .inr (12, []), .inl (8, [(0, 4), (0, 8), (3, 7), (0, 0)]), .inr (32, []), .inl (8, [(0, 5), (0, 40), (3, 9), (0, 0)]), .inr (200, []), .inl (8, [(0, 2), (0, 16), (3, 11), (0, 0)]), .inr (32, []), .inl (8, [(0, 5), (0, 8), (3, 13), (0, 0)]), .inr (40, []), .inr (64, []), .inr (24, [])]
  refine KK.aload hx (j := 0) (i := 0) (by decide +kernel) rfl rfl (fun _ _ _ _ _ => ⟨_, rfl⟩) ?_
  refine KK.ic hx (n := 4) (by decide +kernel) ?_
  refine KK.newa hx (N := 4) (by decide +kernel) wac rfl (by decide) (by decide) (by decide) ?_
  show KW X 1 (some 10) 121 [some (1, 0)] [(3, 16), (1, 0)] [(3, 0), (3, 2), (3, 4), (3, 6), (3, 8), (3, 10), (3, 12), (3, 14), (3, 15), (4, 0), (4, 0), (0, 0), (0, 0)] [.inl (8, [(0, 5), (0, 8), (3, 1), (0, 0)]), .inr (40, []), .inl (8, [(0, 5), (0, 12), (3, 3), (0, 0)]), .inr (60, []), .inl (8, [(0, 4), (0, 3), (3, 5), (0, 0)]), .inr (12, []), .inl (8, [(0, 4), (0, 8), (3, 7), (0, 0)]), .inr (32, []), .inl (8, [(0, 5), (0, 40), (3, 9), (0, 0)]), .inr (200, []), .inl (8, [(0, 2), (0, 16), (3, 11), (0, 0)]), .inr (32, []), .inl (8, [(0, 5), (0, 8), (3, 13), (0, 0)]), .inr (40, []), .inr (64, []), .inr (24, []), .inr (4, [])]
  refine KK.pF hx (idx := 45) (j := 9) (q := (3, 16)) (by decide +kernel) ck10 (by decide) fl_10_45 rfl rfl (fun _ _ _ _ => ⟨rfl, rfl⟩) (by decide) ?_
  show KW X 1 (some 10) 124 [some (1, 0)] [] [(3, 0), (3, 2), (3, 4), (3, 6), (3, 8), (3, 10), (3, 12), (3, 14), (3, 15), (3, 16), (4, 0), (0, 0), (0, 0)] [.inl (8, [(0, 5), (0, 8), (3, 1), (0, 0)]), .inr (40, []), .inl (8, [(0, 5), (0, 12), (3, 3), (0, 0)]), .inr (60, []), .inl (8, [(0, 4), (0, 3), (3, 5), (0, 0)]), .inr (12, []), .inl (8, [(0, 4), (0, 8), (3, 7), (0, 0)]), .inr (32, []), .inl (8, [(0, 5), (0, 40), (3, 9), (0, 0)]), .inr (200, []), .inl (8, [(0, 2), (0, 16), (3, 11), (0, 0)]), .inr (32, []), .inl (8, [(0, 5), (0, 8), (3, 13), (0, 0)]), .inr (40, []), .inr (64, []), .inr (24, []), .inr (4, [])]
  refine KK.aload hx (j := 0) (i := 0) (by decide +kernel) rfl rfl (fun _ _ _ _ _ => ⟨_, rfl⟩) ?_
  refine KK.bi hx (n := 12) (by decide +kernel) (by decide) ?_
  refine KK.newa hx (N := 12) (by decide +kernel) wac rfl (by decide) (by decide) (by decide) ?_
  show KW X 1 (some 10) 129 [some (1, 0)] [(3, 17), (1, 0)] [(3, 0), (3, 2), (3, 4), (3, 6), (3, 8), (3, 10), (3, 12), (3, 14), (3, 15), (3, 16), (4, 0), (0, 0), (0, 0)] [.inl (8, [(0, 5), (0, 8), (3, 1), (0, 0)]), .inr (40, []), .inl (8, [(0, 5), (0, 12), (3, 3), (0, 0)]), .inr (60, []), .inl (8, [(0, 4), (0, 3), (3, 5), (0, 0)]), .inr (12, []), .inl (8, [(0, 4), (0, 8), (3, 7), (0, 0)]), .inr (32, []), .inl (8, [(0, 5), (0, 40), (3, 9), (0, 0)]), .inr (200, []), .inl (8, [(0, 2), (0, 16), (3, 11), (0, 0)]), .inr (32, []), .inl (8, [(0, 5), (0, 8), (3, 13), (0, 0)]), .inr (40, []), .inr (64, []), .inr (24, []), .inr (4, []), .inr (12, [])]
  refine KK.pF hx (idx := 48) (j := 10) (q := (3, 17)) (by decide +kernel) ck10 (by decide) fl_10_48 rfl rfl (fun _ _ _ _ => ⟨rfl, rfl⟩) (by decide) ?_
  show KW X 1 (some 10) 132 [some (1, 0)] [] [(3, 0), (3, 2), (3, 4), (3, 6), (3, 8), (3, 10), (3, 12), (3, 14), (3, 15), (3, 16), (3, 17), (0, 0), (0, 0)] [.inl (8, [(0, 5), (0, 8), (3, 1), (0, 0)]), .inr (40, []), .inl (8, [(0, 5), (0, 12), (3, 3), (0, 0)]), .inr (60, []), .inl (8, [(0, 4), (0, 3), (3, 5), (0, 0)]), .inr (12, []), .inl (8, [(0, 4), (0, 8), (3, 7), (0, 0)]), .inr (32, []), .inl (8, [(0, 5), (0, 40), (3, 9), (0, 0)]), .inr (200, []), .inl (8, [(0, 2), (0, 16), (3, 11), (0, 0)]), .inr (32, []), .inl (8, [(0, 5), (0, 8), (3, 13), (0, 0)]), .inr (40, []), .inr (64, []), .inr (24, []), .inr (4, []), .inr (12, [])]
  refine KK.aload hx (j := 0) (i := 0) (by decide +kernel) rfl rfl (fun _ _ _ _ _ => ⟨_, rfl⟩) ?_
  refine KK.gf hx (idx := 38) (j := 7) (q := (3, 14)) (by decide +kernel) ck10 (by decide) fl_10_38 rfl ?_
  refine KK.bi hx (n := 60) (by decide +kernel) (by decide) ?_
  refine KK.fill hx (idx := 51) (j := 14) (n := 64) (v := 60) (by decide +kernel) ml_10_51 rfl (by decide) (fun _ _ _ => (show 0 ≤ 8 by decide)) (by decide) (by decide) (by decide) (by decide) ?_
  show KW X 1 (some 10) 141 [some (1, 0)] [] [(3, 0), (3, 2), (3, 4), (3, 6), (3, 8), (3, 10), (3, 12), (3, 14), (3, 15), (3, 16), (3, 17), (0, 0), (0, 0)] [.inl (8, [(0, 5), (0, 8), (3, 1), (0, 0)]), .inr (40, []), .inl (8, [(0, 5), (0, 12), (3, 3), (0, 0)]), .inr (60, []), .inl (8, [(0, 4), (0, 3), (3, 5), (0, 0)]), .inr (12, []), .inl (8, [(0, 4), (0, 8), (3, 7), (0, 0)]), .inr (32, []), .inl (8, [(0, 5), (0, 40), (3, 9), (0, 0)]), .inr (200, []), .inl (8, [(0, 2), (0, 16), (3, 11), (0, 0)]), .inr (32, []), .inl (8, [(0, 5), (0, 8), (3, 13), (0, 0)]), .inr (40, []), .inr (64, List.replicate 64 60), .inr (24, []), .inr (4, []), .inr (12, [])]
  refine KK.aload hx (j := 0) (i := 0) (by decide +kernel) rfl rfl (fun _ _ _ _ _ => ⟨_, rfl⟩) ?_
  refine KK.gf hx (idx := 45) (j := 9) (q := (3, 16)) (by decide +kernel) ck10 (by decide) fl_10_45 rfl ?_
  refine KK.ic hx (n := 0) (by decide +kernel) ?_
  refine KK.ic hx (n := 4) (by decide +kernel) ?_
  refine KK.ast hx (j := 16) (i := 0) (n := 4) (v := 4) (by decide +kernel) rfl (by decide) (by decide) ?_
  show KW X 1 (some 10) 148 [some (1, 0)] [] [(3, 0), (3, 2), (3, 4), (3, 6), (3, 8), (3, 10), (3, 12), (3, 14), (3, 15), (3, 16), (3, 17), (0, 0), (0, 0)] [.inl (8, [(0, 5), (0, 8), (3, 1), (0, 0)]), .inr (40, []), .inl (8, [(0, 5), (0, 12), (3, 3), (0, 0)]), .inr (60, []), .inl (8, [(0, 4), (0, 3), (3, 5), (0, 0)]), .inr (12, []), .inl (8, [(0, 4), (0, 8), (3, 7), (0, 0)]), .inr (32, []), .inl (8, [(0, 5), (0, 40), (3, 9), (0, 0)]), .inr (200, []), .inl (8, [(0, 2), (0, 16), (3, 11), (0, 0)]), .inr (32, []), .inl (8, [(0, 5), (0, 8), (3, 13), (0, 0)]), .inr (40, []), .inr (64, List.replicate 64 60), .inr (24, []), .inr (4, [4]), .inr (12, [])]
  refine KK.aload hx (j := 0) (i := 0) (by decide +kernel) rfl rfl (fun _ _ _ _ _ => ⟨_, rfl⟩) ?_
  refine KK.gf hx (idx := 45) (j := 9) (q := (3, 16)) (by decide +kernel) ck10 (by decide) fl_10_45 rfl ?_
  refine KK.ic hx (n := 1) (by decide +kernel) ?_
  refine KK.ic hx (n := 4) (by decide +kernel) ?_
  refine KK.ast hx (j := 16) (i := 1) (n := 4) (v := 4) (by decide +kernel) rfl (by decide) (by decide) ?_
  show KW X 1 (some 10) 155 [some (1, 0)] [] [(3, 0), (3, 2), (3, 4), (3, 6), (3, 8), (3, 10), (3, 12), (3, 14), (3, 15), (3, 16), (3, 17), (0, 0), (0, 0)] [.inl (8, [(0, 5), (0, 8), (3, 1), (0, 0)]), .inr (40, []), .inl (8, [(0, 5), (0, 12), (3, 3), (0, 0)]), .inr (60, []), .inl (8, [(0, 4), (0, 3), (3, 5), (0, 0)]), .inr (12, []), .inl (8, [(0, 4), (0, 8), (3, 7), (0, 0)]), .inr (32, []), .inl (8, [(0, 5), (0, 40), (3, 9), (0, 0)]), .inr (200, []), .inl (8, [(0, 2), (0, 16), (3, 11), (0, 0)]), .inr (32, []), .inl (8, [(0, 5), (0, 8), (3, 13), (0, 0)]), .inr (40, []), .inr (64, List.replicate 64 60), .inr (24, []), .inr (4, [4, 4]), .inr (12, [])]
  refine KK.aload hx (j := 0) (i := 0) (by decide +kernel) rfl rfl (fun _ _ _ _ _ => ⟨_, rfl⟩) ?_
  refine KK.gf hx (idx := 45) (j := 9) (q := (3, 16)) (by decide +kernel) ck10 (by decide) fl_10_45 rfl ?_
  refine KK.ic hx (n := 2) (by decide +kernel) ?_
  refine KK.bi hx (n := 11) (by decide +kernel) (by decide) ?_
  refine KK.ast hx (j := 16) (i := 2) (n := 4) (v := 11) (by decide +kernel) rfl (by decide) (by decide) ?_
  show KW X 1 (some 10) 163 [some (1, 0)] [] [(3, 0), (3, 2), (3, 4), (3, 6), (3, 8), (3, 10), (3, 12), (3, 14), (3, 15), (3, 16), (3, 17), (0, 0), (0, 0)] [.inl (8, [(0, 5), (0, 8), (3, 1), (0, 0)]), .inr (40, []), .inl (8, [(0, 5), (0, 12), (3, 3), (0, 0)]), .inr (60, []), .inl (8, [(0, 4), (0, 3), (3, 5), (0, 0)]), .inr (12, []), .inl (8, [(0, 4), (0, 8), (3, 7), (0, 0)]), .inr (32, []), .inl (8, [(0, 5), (0, 40), (3, 9), (0, 0)]), .inr (200, []), .inl (8, [(0, 2), (0, 16), (3, 11), (0, 0)]), .inr (32, []), .inl (8, [(0, 5), (0, 8), (3, 13), (0, 0)]), .inr (40, []), .inr (64, List.replicate 64 60), .inr (24, []), .inr (4, [4, 4, 11]), .inr (12, [])]
  refine KK.aload hx (j := 0) (i := 0) (by decide +kernel) rfl rfl (fun _ _ _ _ _ => ⟨_, rfl⟩) ?_
  refine KK.gf hx (idx := 45) (j := 9) (q := (3, 16)) (by decide +kernel) ck10 (by decide) fl_10_45 rfl ?_
  refine KK.ic hx (n := 3) (by decide +kernel) ?_
  refine KK.ic hx (n := 4) (by decide +kernel) ?_
  refine KK.ast hx (j := 16) (i := 3) (n := 4) (v := 4) (by decide +kernel) rfl (by decide) (by decide) ?_
  show KW X 1 (some 10) 170 [some (1, 0)] [] [(3, 0), (3, 2), (3, 4), (3, 6), (3, 8), (3, 10), (3, 12), (3, 14), (3, 15), (3, 16), (3, 17), (0, 0), (0, 0)] [.inl (8, [(0, 5), (0, 8), (3, 1), (0, 0)]), .inr (40, []), .inl (8, [(0, 5), (0, 12), (3, 3), (0, 0)]), .inr (60, []), .inl (8, [(0, 4), (0, 3), (3, 5), (0, 0)]), .inr (12, []), .inl (8, [(0, 4), (0, 8), (3, 7), (0, 0)]), .inr (32, []), .inl (8, [(0, 5), (0, 40), (3, 9), (0, 0)]), .inr (200, []), .inl (8, [(0, 2), (0, 16), (3, 11), (0, 0)]), .inr (32, []), .inl (8, [(0, 5), (0, 8), (3, 13), (0, 0)]), .inr (40, []), .inr (64, List.replicate 64 60), .inr (24, []), .inr (4, [4, 4, 11, 4]), .inr (12, [])]
  refine KK.aload hx (j := 0) (i := 0) (by decide +kernel) rfl rfl (fun _ _ _ _ _ => ⟨_, rfl⟩) ?_
  refine KK.ic hx (n := 0) (by decide +kernel) ?_
  refine KK.pf hx (idx := 57) (j := 11) (q := (0, 0)) (by decide +kernel) ck10 (by decide) fl_10_57 rfl (fun _ _ _ _ => ⟨rfl, rfl⟩) (by decide) ?_
  show KW X 1 (some 10) 175 [some (1, 0)] [] [(3, 0), (3, 2), (3, 4), (3, 6), (3, 8), (3, 10), (3, 12), (3, 14), (3, 15), (3, 16), (3, 17), (0, 0), (0, 0)] [.inl (8, [(0, 5), (0, 8), (3, 1), (0, 0)]), .inr (40, []), .inl (8, [(0, 5), (0, 12), (3, 3), (0, 0)]), .inr (60, []), .inl (8, [(0, 4), (0, 3), (3, 5), (0, 0)]), .inr (12, []), .inl (8, [(0, 4), (0, 8), (3, 7), (0, 0)]), .inr (32, []), .inl (8, [(0, 5), (0, 40), (3, 9), (0, 0)]), .inr (200, []), .inl (8, [(0, 2), (0, 16), (3, 11), (0, 0)]), .inr (32, []), .inl (8, [(0, 5), (0, 8), (3, 13), (0, 0)]), .inr (40, []), .inr (64, List.replicate 64 60), .inr (24, []), .inr (4, [4, 4, 11, 4]), .inr (12, [])]
  refine KK.aload hx (j := 0) (i := 0) (by decide +kernel) rfl rfl (fun _ _ _ _ _ => ⟨_, rfl⟩) ?_
  refine KK.ic hx (n := 0) (by decide +kernel) ?_
  refine KK.pf hx (idx := 61) (j := 12) (q := (0, 0)) (by decide +kernel) ck10 (by decide) fl_10_61 rfl (fun _ _ _ _ => ⟨rfl, rfl⟩) (by decide) ?_
  show KW X 1 (some 10) 180 [some (1, 0)] [] [(3, 0), (3, 2), (3, 4), (3, 6), (3, 8), (3, 10), (3, 12), (3, 14), (3, 15), (3, 16), (3, 17), (0, 0), (0, 0)] [.inl (8, [(0, 5), (0, 8), (3, 1), (0, 0)]), .inr (40, []), .inl (8, [(0, 5), (0, 12), (3, 3), (0, 0)]), .inr (60, []), .inl (8, [(0, 4), (0, 3), (3, 5), (0, 0)]), .inr (12, []), .inl (8, [(0, 4), (0, 8), (3, 7), (0, 0)]), .inr (32, []), .inl (8, [(0, 5), (0, 40), (3, 9), (0, 0)]), .inr (200, []), .inl (8, [(0, 2), (0, 16), (3, 11), (0, 0)]), .inr (32, []), .inl (8, [(0, 5), (0, 8), (3, 13), (0, 0)]), .inr (40, []), .inr (64, List.replicate 64 60), .inr (24, []), .inr (4, [4, 4, 11, 4]), .inr (12, [])]
  exact hret _ _ (by decide +kernel)
abbrev kF_9 : List kv := [(2, 0), (3, 0), (3, 1), (0, 0), (0, 0), (0, 0), (3, 2), (3, 3), (3, 4), (3, 5), (0, 0), (0, (-3))]
abbrev kC_9 : List kc := [.inr (12, []), .inr (12, []), .inr (4, []), .inr (4, []), .inr (4, []), .inr (4, [])]
set_option maxRecDepth 20000 in
theorem km_9 : KM yX9_init cX9_init 2 1 12 9 [(4, 0), (4, 0), (4, 0), (0, 0), (0, 0), (0, 0), (4, 0), (4, 0), (4, 0), (4, 0), (0, 0), (0, 0)] [(2, 0)] kF_9 kC_9 := by
  refine KM.of (own := RX9) (by decide +kernel) rfl rfl (by decide) ?_
  intro X hx hav hret
  refine KK.aload hx (j := 0) (i := 0) (by decide +kernel) rfl rfl (fun _ _ _ _ _ => ⟨_, rfl⟩) ?_
  refine KK.obj hx (idx := 3) (by decide +kernel) ol_9_3 oi_i oi_c (by decide) (by decide) ?_
  refine KK.aload hx (j := 0) (i := 0) (by decide +kernel) rfl rfl (fun _ _ _ _ _ => ⟨_, rfl⟩) ?_
  refine KK.bi hx (n := 12) (by decide +kernel) (by decide) ?_
  refine KK.newa hx (N := 12) (by decide +kernel) wac rfl (by decide) (by decide) (by decide) ?_
  show KW X 2 (some 9) 9 [some (1, 0), some (2, 0)] [(3, 0), (1, 0)] [(4, 0), (4, 0), (4, 0), (0, 0), (0, 0), (0, 0), (4, 0), (4, 0), (4, 0), (4, 0), (0, 0), (0, 0)] [.inr (12, [])]
  refine KK.pF hx (idx := 9) (j := 1) (q := (3, 0)) (by decide +kernel) ck9 (by decide) fl_9_9 rfl rfl (fun _ _ _ _ => ⟨rfl, rfl⟩) (by decide) ?_
  show KW X 2 (some 9) 12 [some (1, 0), some (2, 0)] [] [(4, 0), (3, 0), (4, 0), (0, 0), (0, 0), (0, 0), (4, 0), (4, 0), (4, 0), (4, 0), (0, 0), (0, 0)] [.inr (12, [])]
  refine KK.aload hx (j := 0) (i := 0) (by decide +kernel) rfl rfl (fun _ _ _ _ _ => ⟨_, rfl⟩) ?_
  refine KK.bi hx (n := 12) (by decide +kernel) (by decide) ?_
  refine KK.newa hx (N := 12) (by decide +kernel) wac rfl (by decide) (by decide) (by decide) ?_
  show KW X 2 (some 9) 17 [some (1, 0), some (2, 0)] [(3, 1), (1, 0)] [(4, 0), (3, 0), (4, 0), (0, 0), (0, 0), (0, 0), (4, 0), (4, 0), (4, 0), (4, 0), (0, 0), (0, 0)] [.inr (12, []), .inr (12, [])]
  refine KK.pF hx (idx := 15) (j := 2) (q := (3, 1)) (by decide +kernel) ck9 (by decide) fl_9_15 rfl rfl (fun _ _ _ _ => ⟨rfl, rfl⟩) (by decide) ?_
  show KW X 2 (some 9) 20 [some (1, 0), some (2, 0)] [] [(4, 0), (3, 0), (3, 1), (0, 0), (0, 0), (0, 0), (4, 0), (4, 0), (4, 0), (4, 0), (0, 0), (0, 0)] [.inr (12, []), .inr (12, [])]
  refine KK.aload hx (j := 0) (i := 0) (by decide +kernel) rfl rfl (fun _ _ _ _ _ => ⟨_, rfl⟩) ?_
  refine KK.ic hx (n := 4) (by decide +kernel) ?_
  refine KK.newa hx (N := 4) (by decide +kernel) wac rfl (by decide) (by decide) (by decide) ?_
  show KW X 2 (some 9) 24 [some (1, 0), some (2, 0)] [(3, 2), (1, 0)] [(4, 0), (3, 0), (3, 1), (0, 0), (0, 0), (0, 0), (4, 0), (4, 0), (4, 0), (4, 0), (0, 0), (0, 0)] [.inr (12, []), .inr (12, []), .inr (4, [])]
  refine KK.pF hx (idx := 18) (j := 6) (q := (3, 2)) (by decide +kernel) ck9 (by decide) fl_9_18 rfl rfl (fun _ _ _ _ => ⟨rfl, rfl⟩) (by decide) ?_
  show KW X 2 (some 9) 27 [some (1, 0), some (2, 0)] [] [(4, 0), (3, 0), (3, 1), (0, 0), (0, 0), (0, 0), (3, 2), (4, 0), (4, 0), (4, 0), (0, 0), (0, 0)] [.inr (12, []), .inr (12, []), .inr (4, [])]
  refine KK.aload hx (j := 0) (i := 0) (by decide +kernel) rfl rfl (fun _ _ _ _ _ => ⟨_, rfl⟩) ?_
  refine KK.ic hx (n := 4) (by decide +kernel) ?_
  refine KK.newa hx (N := 4) (by decide +kernel) wac rfl (by decide) (by decide) (by decide) ?_
  show KW X 2 (some 9) 31 [some (1, 0), some (2, 0)] [(3, 3), (1, 0)] [(4, 0), (3, 0), (3, 1), (0, 0), (0, 0), (0, 0), (3, 2), (4, 0), (4, 0), (4, 0), (0, 0), (0, 0)] [.inr (12, []), .inr (12, []), .inr (4, []), .inr (4, [])]
  refine KK.pF hx (idx := 21) (j := 7) (q := (3, 3)) (by decide +kernel) ck9 (by decide) fl_9_21 rfl rfl (fun _ _ _ _ => ⟨rfl, rfl⟩) (by decide) ?_
  show KW X 2 (some 9) 34 [some (1, 0), some (2, 0)] [] [(4, 0), (3, 0), (3, 1), (0, 0), (0, 0), (0, 0), (3, 2), (3, 3), (4, 0), (4, 0), (0, 0), (0, 0)] [.inr (12, []), .inr (12, []), .inr (4, []), .inr (4, [])]
  refine KK.aload hx (j := 0) (i := 0) (by decide +kernel) rfl rfl (fun _ _ _ _ _ => ⟨_, rfl⟩) ?_
  refine KK.ic hx (n := 4) (by decide +kernel) ?_
  refine KK.newa hx (N := 4) (by decide +kernel) wac rfl (by decide) (by decide) (by decide) ?_
  show KW X 2 (some 9) 38 [some (1, 0), some (2, 0)] [(3, 4), (1, 0)] [(4, 0), (3, 0), (3, 1), (0, 0), (0, 0), (0, 0), (3, 2), (3, 3), (4, 0), (4, 0), (0, 0), (0, 0)] [.inr (12, []), .inr (12, []), .inr (4, []), .inr (4, []), .inr (4, [])]
  refine KK.pF hx (idx := 24) (j := 8) (q := (3, 4)) (by decide +kernel) ck9 (by decide) fl_9_24 rfl rfl (fun _ _ _ _ => ⟨rfl, rfl⟩) (by decide) ?_
  show KW X 2 (some 9) 41 [some (1, 0), some (2, 0)] [] [(4, 0), (3, 0), (3, 1), (0, 0), (0, 0), (0, 0), (3, 2), (3, 3), (3, 4), (4, 0), (0, 0), (0, 0)] [.inr (12, []), .inr (12, []), .inr (4, []), .inr (4, []), .inr (4, [])]
  refine KK.aload hx (j := 0) (i := 0) (by decide +kernel) rfl rfl (fun _ _ _ _ _ => ⟨_, rfl⟩) ?_
  refine KK.ic hx (n := 4) (by decide +kernel) ?_
  refine KK.newa hx (N := 4) (by decide +kernel) wac rfl (by decide) (by decide) (by decide) ?_
  show KW X 2 (some 9) 45 [some (1, 0), some (2, 0)] [(3, 5), (1, 0)] [(4, 0), (3, 0), (3, 1), (0, 0), (0, 0), (0, 0), (3, 2), (3, 3), (3, 4), (4, 0), (0, 0), (0, 0)] [.inr (12, []), .inr (12, []), .inr (4, []), .inr (4, []), .inr (4, []), .inr (4, [])]
  refine KK.pF hx (idx := 27) (j := 9) (q := (3, 5)) (by decide +kernel) ck9 (by decide) fl_9_27 rfl rfl (fun _ _ _ _ => ⟨rfl, rfl⟩) (by decide) ?_
  show KW X 2 (some 9) 48 [some (1, 0), some (2, 0)] [] [(4, 0), (3, 0), (3, 1), (0, 0), (0, 0), (0, 0), (3, 2), (3, 3), (3, 4), (3, 5), (0, 0), (0, 0)] [.inr (12, []), .inr (12, []), .inr (4, []), .inr (4, []), .inr (4, []), .inr (4, [])]
  refine KK.aload hx (j := 0) (i := 0) (by decide +kernel) rfl rfl (fun _ _ _ _ _ => ⟨_, rfl⟩) ?_
  refine KK.aload hx (j := 1) (i := 1) (by decide +kernel) rfl rfl (ra2 hav 0 (by decide)) ?_
  refine KK.pF hx (idx := 30) (j := 0) (q := (2, 0)) (by decide +kernel) ck9 (by decide) fl_9_30 rfl rfl (ho2 hav 0 (by decide) (fun _ => ⟨rfl, rfl⟩)) (by decide) ?_
  show KW X 2 (some 9) 53 [some (1, 0), some (2, 0)] [] [(2, 0), (3, 0), (3, 1), (0, 0), (0, 0), (0, 0), (3, 2), (3, 3), (3, 4), (3, 5), (0, 0), (0, 0)] [.inr (12, []), .inr (12, []), .inr (4, []), .inr (4, []), .inr (4, []), .inr (4, [])]
  refine KK.aload hx (j := 0) (i := 0) (by decide +kernel) rfl rfl (fun _ _ _ _ _ => ⟨_, rfl⟩) ?_
  refine KK.ic hx (n := 0) (by decide +kernel) ?_
  refine KK.pf hx (idx := 34) (j := 3) (q := (0, 0)) (by decide +kernel) ck9 (by decide) fl_9_34 rfl (fun _ _ _ _ => ⟨rfl, rfl⟩) (by decide) ?_
  show KW X 2 (some 9) 58 [some (1, 0), some (2, 0)] [] [(2, 0), (3, 0), (3, 1), (0, 0), (0, 0), (0, 0), (3, 2), (3, 3), (3, 4), (3, 5), (0, 0), (0, 0)] [.inr (12, []), .inr (12, []), .inr (4, []), .inr (4, []), .inr (4, []), .inr (4, [])]
  refine KK.aload hx (j := 0) (i := 0) (by decide +kernel) rfl rfl (fun _ _ _ _ _ => ⟨_, rfl⟩) ?_
  refine KK.ic hx (n := 0) (by decide +kernel) ?_
  refine KK.pf hx (idx := 38) (j := 4) (q := (0, 0)) (by decide +kernel) ck9 (by decide) fl_9_38 rfl (fun _ _ _ _ => ⟨rfl, rfl⟩) (by decide) ?_
  show KW X 2 (some 9) 63 [some (1, 0), some (2, 0)] [] [(2, 0), (3, 0), (3, 1), (0, 0), (0, 0), (0, 0), (3, 2), (3, 3), (3, 4), (3, 5), (0, 0), (0, 0)] [.inr (12, []), .inr (12, []), .inr (4, []), .inr (4, []), .inr (4, []), .inr (4, [])]
  refine KK.aload hx (j := 0) (i := 0) (by decide +kernel) rfl rfl (fun _ _ _ _ _ => ⟨_, rfl⟩) ?_
  refine KK.ic hx (n := 0) (by decide +kernel) ?_
  refine KK.pf hx (idx := 41) (j := 5) (q := (0, 0)) (by decide +kernel) ck9 (by decide) fl_9_41 rfl (fun _ _ _ _ => ⟨rfl, rfl⟩) (by decide) ?_
  show KW X 2 (some 9) 68 [some (1, 0), some (2, 0)] [] [(2, 0), (3, 0), (3, 1), (0, 0), (0, 0), (0, 0), (3, 2), (3, 3), (3, 4), (3, 5), (0, 0), (0, 0)] [.inr (12, []), .inr (12, []), .inr (4, []), .inr (4, []), .inr (4, []), .inr (4, [])]
  refine KK.aload hx (j := 0) (i := 0) (by decide +kernel) rfl rfl (fun _ _ _ _ _ => ⟨_, rfl⟩) ?_
  refine KK.ic hx (n := 0) (by decide +kernel) ?_
  refine KK.pf hx (idx := 44) (j := 10) (q := (0, 0)) (by decide +kernel) ck9 (by decide) fl_9_44 rfl (fun _ _ _ _ => ⟨rfl, rfl⟩) (by decide) ?_
  show KW X 2 (some 9) 73 [some (1, 0), some (2, 0)] [] [(2, 0), (3, 0), (3, 1), (0, 0), (0, 0), (0, 0), (3, 2), (3, 3), (3, 4), (3, 5), (0, 0), (0, 0)] [.inr (12, []), .inr (12, []), .inr (4, []), .inr (4, []), .inr (4, []), .inr (4, [])]
  refine KK.aload hx (j := 0) (i := 0) (by decide +kernel) rfl rfl (fun _ _ _ _ _ => ⟨_, rfl⟩) ?_
  refine KK.bi hx (n := -3) (by decide +kernel) (by decide) ?_
  refine KK.pf hx (idx := 47) (j := 11) (q := (0, (-3))) (by decide +kernel) ck9 (by decide) fl_9_47 rfl (fun _ _ _ _ => ⟨rfl, rfl⟩) (by decide) ?_
  show KW X 2 (some 9) 79 [some (1, 0), some (2, 0)] [] [(2, 0), (3, 0), (3, 1), (0, 0), (0, 0), (0, 0), (3, 2), (3, 3), (3, 4), (3, 5), (0, 0), (0, (-3))] [.inr (12, []), .inr (12, []), .inr (4, []), .inr (4, []), .inr (4, []), .inr (4, [])]
  exact hret _ _ (by decide +kernel)
abbrev kF_0 : List kv := [(3, 0), (3, 1), (0, 0)]
abbrev kC_0 : List kc := [.inr (8, []), .inr (8, [])]
set_option maxRecDepth 20000 in
theorem km_0 : KM yX0_init cX0_init 1 1 12 0 [(4, 0), (4, 0), (0, 0)] [] kF_0 kC_0 := by
  refine KM.of (own := RX0) (by decide +kernel) rfl rfl (by decide) ?_
  intro X hx hav hret
  refine KK.aload hx (j := 0) (i := 0) (by decide +kernel) rfl rfl (fun _ _ _ _ _ => ⟨_, rfl⟩) ?_
  refine KK.obj hx (idx := 3) (by decide +kernel) ol_0_3 oi_i oi_c (by decide) (by decide) ?_
  refine KK.aload hx (j := 0) (i := 0) (by decide +kernel) rfl rfl (fun _ _ _ _ _ => ⟨_, rfl⟩) ?_
  refine KK.bi hx (n := 8) (by decide +kernel) (by decide) ?_
  refine KK.newa hx (N := 8) (by decide +kernel) wac rfl (by decide) (by decide) (by decide) ?_
  show KW X 1 (some 0) 9 [some (1, 0)] [(3, 0), (1, 0)] [(4, 0), (4, 0), (0, 0)] [.inr (8, [])]
  refine KK.pF hx (idx := 9) (j := 0) (q := (3, 0)) (by decide +kernel) ck0 (by decide) fl_0_9 rfl rfl (fun _ _ _ _ => ⟨rfl, rfl⟩) (by decide) ?_
  show KW X 1 (some 0) 12 [some (1, 0)] [] [(3, 0), (4, 0), (0, 0)] [.inr (8, [])]
  refine KK.aload hx (j := 0) (i := 0) (by decide +kernel) rfl rfl (fun _ _ _ _ _ => ⟨_, rfl⟩) ?_
  refine KK.bi hx (n := 8) (by decide +kernel) (by decide) ?_
  refine KK.newa hx (N := 8) (by decide +kernel) wac rfl (by decide) (by decide) (by decide) ?_
  show KW X 1 (some 0) 17 [some (1, 0)] [(3, 1), (1, 0)] [(3, 0), (4, 0), (0, 0)] [.inr (8, []), .inr (8, [])]
  refine KK.pF hx (idx := 15) (j := 1) (q := (3, 1)) (by decide +kernel) ck0 (by decide) fl_0_15 rfl rfl (fun _ _ _ _ => ⟨rfl, rfl⟩) (by decide) ?_
  show KW X 1 (some 0) 20 [some (1, 0)] [] [(3, 0), (3, 1), (0, 0)] [.inr (8, []), .inr (8, [])]
  refine KK.aload hx (j := 0) (i := 0) (by decide +kernel) rfl rfl (fun _ _ _ _ _ => ⟨_, rfl⟩) ?_
  refine KK.ic hx (n := 0) (by decide +kernel) ?_
  refine KK.pf hx (idx := 18) (j := 2) (q := (0, 0)) (by decide +kernel) ck0 (by decide) fl_0_18 rfl (fun _ _ _ _ => ⟨rfl, rfl⟩) (by decide) ?_
  show KW X 1 (some 0) 25 [some (1, 0)] [] [(3, 0), (3, 1), (0, 0)] [.inr (8, []), .inr (8, [])]
  exact hret _ _ (by decide +kernel)
abbrev kF_5 : List kv := [(2, 0), (2, 1), (3, 0), (3, 3), (0, 0), (3, 4), (3, 5), (3, 6), (3, 7)]
abbrev kC_5 : List kc := [.inl (0, [(3, 1), (3, 2), (0, 0)]), .inr (8, []), .inr (8, []), .inr (3, []), .inr (768, []), .inr (3, []), .inr (3, []), .inr (256, [])]
set_option maxRecDepth 20000 in
theorem km_5 : KM yX5_init cX5_init 3 2 32 5 [(4, 0), (4, 0), (4, 0), (4, 0), (0, 0), (4, 0), (4, 0), (4, 0), (4, 0)] [(2, 0), (2, 1)] kF_5 kC_5 := by
  refine KM.of (own := RX5) (by decide +kernel) rfl rfl (by decide) ?_
  intro X hx hav hret
  refine KK.aload hx (j := 0) (i := 0) (by decide +kernel) rfl rfl (fun _ _ _ _ _ => ⟨_, rfl⟩) ?_
  refine KK.obj hx (idx := 3) (by decide +kernel) ol_5_3 oi_i oi_c (by decide) (by decide) ?_
  refine KK.aload hx (j := 0) (i := 0) (by decide +kernel) rfl rfl (fun _ _ _ _ _ => ⟨_, rfl⟩) ?_
  refine KK.new hx (idx := 9) (by decide +kernel) ck0 cl_5_9 it_0 in_0 [(4, 0), (4, 0), (0, 0)] rfl (hfs0) (by decide) (by decide) ?_
  show KW X 3 (some 5) 8 [some (1, 0), some (2, 0), some (2, 1)] [(3, 0), (1, 0)] [(4, 0), (4, 0), (4, 0), (4, 0), (0, 0), (4, 0), (4, 0), (4, 0), (4, 0)] [.inl (0, [(4, 0), (4, 0), (0, 0)])]
  refine KK.dup hx (by decide +kernel) (by decide) ?_
  refine KK.call hx (idx := 11) (j0 := 0) (bs := []) (km_0) (by decide +kernel) wbi_0 kl_5_11 imi_0 rfl dsi_0 rfl rfl (fun _ _ _ _ => ⟨rfl, okl (by decide)⟩) (by decide) (fun _ _ _ => (show 1 + (1 + (0)) ≤ 8 by decide)) (by decide) (by decide) (by decide) (by decide) ?_
  show KW X 3 (some 5) 12 [some (1, 0), some (2, 0), some (2, 1)] [(3, 0), (1, 0)] [(4, 0), (4, 0), (4, 0), (4, 0), (0, 0), (4, 0), (4, 0), (4, 0), (4, 0)] [.inl (0, [(3, 1), (3, 2), (0, 0)]), .inr (8, []), .inr (8, [])]
  refine KK.pF hx (idx := 12) (j := 2) (q := (3, 0)) (by decide +kernel) ck5 (by decide) fl_5_12 rfl rfl (fun _ _ _ _ => ⟨rfl, rfl⟩) (by decide) ?_
  show KW X 3 (some 5) 15 [some (1, 0), some (2, 0), some (2, 1)] [] [(4, 0), (4, 0), (3, 0), (4, 0), (0, 0), (4, 0), (4, 0), (4, 0), (4, 0)] [.inl (0, [(3, 1), (3, 2), (0, 0)]), .inr (8, []), .inr (8, [])]
  refine KK.aload hx (j := 0) (i := 0) (by decide +kernel) rfl rfl (fun _ _ _ _ _ => ⟨_, rfl⟩) ?_
  refine KK.ic hx (n := 3) (by decide +kernel) ?_
  refine KK.newa hx (N := 3) (by decide +kernel) wac rfl (by decide) (by decide) (by decide) ?_
  show KW X 3 (some 5) 19 [some (1, 0), some (2, 0), some (2, 1)] [(3, 3), (1, 0)] [(4, 0), (4, 0), (3, 0), (4, 0), (0, 0), (4, 0), (4, 0), (4, 0), (4, 0)] [.inl (0, [(3, 1), (3, 2), (0, 0)]), .inr (8, []), .inr (8, []), .inr (3, [])]
  refine KK.pF hx (idx := 18) (j := 3) (q := (3, 3)) (by decide +kernel) ck5 (by decide) fl_5_18 rfl rfl (fun _ _ _ _ => ⟨rfl, rfl⟩) (by decide) ?_
  show KW X 3 (some 5) 22 [some (1, 0), some (2, 0), some (2, 1)] [] [(4, 0), (4, 0), (3, 0), (3, 3), (0, 0), (4, 0), (4, 0), (4, 0), (4, 0)] [.inl (0, [(3, 1), (3, 2), (0, 0)]), .inr (8, []), .inr (8, []), .inr (3, [])]
  refine KK.aload hx (j := 0) (i := 0) (by decide +kernel) rfl rfl (fun _ _ _ _ _ => ⟨_, rfl⟩) ?_
  refine KK.si hx (n := 768) (by decide +kernel) (by decide) ?_
  refine KK.newa hx (N := 768) (by decide +kernel) wac rfl (by decide) (by decide) (by decide) ?_
  show KW X 3 (some 5) 28 [some (1, 0), some (2, 0), some (2, 1)] [(3, 4), (1, 0)] [(4, 0), (4, 0), (3, 0), (3, 3), (0, 0), (4, 0), (4, 0), (4, 0), (4, 0)] [.inl (0, [(3, 1), (3, 2), (0, 0)]), .inr (8, []), .inr (8, []), .inr (3, []), .inr (768, [])]
  refine KK.pF hx (idx := 22) (j := 5) (q := (3, 4)) (by decide +kernel) ck5 (by decide) fl_5_22 rfl rfl (fun _ _ _ _ => ⟨rfl, rfl⟩) (by decide) ?_
  show KW X 3 (some 5) 31 [some (1, 0), some (2, 0), some (2, 1)] [] [(4, 0), (4, 0), (3, 0), (3, 3), (0, 0), (3, 4), (4, 0), (4, 0), (4, 0)] [.inl (0, [(3, 1), (3, 2), (0, 0)]), .inr (8, []), .inr (8, []), .inr (3, []), .inr (768, [])]
  refine KK.aload hx (j := 0) (i := 0) (by decide +kernel) rfl rfl (fun _ _ _ _ _ => ⟨_, rfl⟩) ?_
  refine KK.ic hx (n := 3) (by decide +kernel) ?_
  refine KK.newa hx (N := 3) (by decide +kernel) wac rfl (by decide) (by decide) (by decide) ?_
  show KW X 3 (some 5) 35 [some (1, 0), some (2, 0), some (2, 1)] [(3, 5), (1, 0)] [(4, 0), (4, 0), (3, 0), (3, 3), (0, 0), (3, 4), (4, 0), (4, 0), (4, 0)] [.inl (0, [(3, 1), (3, 2), (0, 0)]), .inr (8, []), .inr (8, []), .inr (3, []), .inr (768, []), .inr (3, [])]
  refine KK.pF hx (idx := 25) (j := 6) (q := (3, 5)) (by decide +kernel) ck5 (by decide) fl_5_25 rfl rfl (fun _ _ _ _ => ⟨rfl, rfl⟩) (by decide) ?_
  show KW X 3 (some 5) 38 [some (1, 0), some (2, 0), some (2, 1)] [] [(4, 0), (4, 0), (3, 0), (3, 3), (0, 0), (3, 4), (3, 5), (4, 0), (4, 0)] [.inl (0, [(3, 1), (3, 2), (0, 0)]), .inr (8, []), .inr (8, []), .inr (3, []), .inr (768, []), .inr (3, [])]
  refine KK.aload hx (j := 0) (i := 0) (by decide +kernel) rfl rfl (fun _ _ _ _ _ => ⟨_, rfl⟩) ?_
  refine KK.ic hx (n := 3) (by decide +kernel) ?_
  refine KK.newa hx (N := 3) (by decide +kernel) wac rfl (by decide) (by decide) (by decide) ?_
  show KW X 3 (some 5) 42 [some (1, 0), some (2, 0), some (2, 1)] [(3, 6), (1, 0)] [(4, 0), (4, 0), (3, 0), (3, 3), (0, 0), (3, 4), (3, 5), (4, 0), (4, 0)] [.inl (0, [(3, 1), (3, 2), (0, 0)]), .inr (8, []), .inr (8, []), .inr (3, []), .inr (768, []), .inr (3, []), .inr (3, [])]
  refine KK.pF hx (idx := 28) (j := 7) (q := (3, 6)) (by decide +kernel) ck5 (by decide) fl_5_28 rfl rfl (fun _ _ _ _ => ⟨rfl, rfl⟩) (by decide) ?_
  show KW X 3 (some 5) 45 [some (1, 0), some (2, 0), some (2, 1)] [] [(4, 0), (4, 0), (3, 0), (3, 3), (0, 0), (3, 4), (3, 5), (3, 6), (4, 0)] [.inl (0, [(3, 1), (3, 2), (0, 0)]), .inr (8, []), .inr (8, []), .inr (3, []), .inr (768, []), .inr (3, []), .inr (3, [])]
  refine KK.aload hx (j := 0) (i := 0) (by decide +kernel) rfl rfl (fun _ _ _ _ _ => ⟨_, rfl⟩) ?_
  refine KK.si hx (n := 256) (by decide +kernel) (by decide) ?_
  refine KK.newa hx (N := 256) (by decide +kernel) wac rfl (by decide) (by decide) (by decide) ?_
  show KW X 3 (some 5) 51 [some (1, 0), some (2, 0), some (2, 1)] [(3, 7), (1, 0)] [(4, 0), (4, 0), (3, 0), (3, 3), (0, 0), (3, 4), (3, 5), (3, 6), (4, 0)] [.inl (0, [(3, 1), (3, 2), (0, 0)]), .inr (8, []), .inr (8, []), .inr (3, []), .inr (768, []), .inr (3, []), .inr (3, []), .inr (256, [])]
  refine KK.pF hx (idx := 31) (j := 8) (q := (3, 7)) (by decide +kernel) ck5 (by decide) fl_5_31 rfl rfl (fun _ _ _ _ => ⟨rfl, rfl⟩) (by decide) ?_
  show KW X 3 (some 5) 54 [some (1, 0), some (2, 0), some (2, 1)] [] [(4, 0), (4, 0), (3, 0), (3, 3), (0, 0), (3, 4), (3, 5), (3, 6), (3, 7)] [.inl (0, [(3, 1), (3, 2), (0, 0)]), .inr (8, []), .inr (8, []), .inr (3, []), .inr (768, []), .inr (3, []), .inr (3, []), .inr (256, [])]
  refine KK.aload hx (j := 0) (i := 0) (by decide +kernel) rfl rfl (fun _ _ _ _ _ => ⟨_, rfl⟩) ?_
  refine KK.aload hx (j := 1) (i := 1) (by decide +kernel) rfl rfl (ra2 hav 0 (by decide)) ?_
  refine KK.pF hx (idx := 34) (j := 0) (q := (2, 0)) (by decide +kernel) ck5 (by decide) fl_5_34 rfl rfl (ho2 hav 0 (by decide) (fun _ => ⟨rfl, rfl⟩)) (by decide) ?_
  show KW X 3 (some 5) 59 [some (1, 0), some (2, 0), some (2, 1)] [] [(2, 0), (4, 0), (3, 0), (3, 3), (0, 0), (3, 4), (3, 5), (3, 6), (3, 7)] [.inl (0, [(3, 1), (3, 2), (0, 0)]), .inr (8, []), .inr (8, []), .inr (3, []), .inr (768, []), .inr (3, []), .inr (3, []), .inr (256, [])]
  refine KK.aload hx (j := 0) (i := 0) (by decide +kernel) rfl rfl (fun _ _ _ _ _ => ⟨_, rfl⟩) ?_
  refine KK.aload hx (j := 2) (i := 2) (by decide +kernel) rfl rfl (ra2 hav 1 (by decide)) ?_
  refine KK.pF hx (idx := 38) (j := 1) (q := (2, 1)) (by decide +kernel) ck5 (by decide) fl_5_38 rfl rfl (ho2 hav 1 (by decide) (fun _ => ⟨rfl, rfl⟩)) (by decide) ?_
  show KW X 3 (some 5) 64 [some (1, 0), some (2, 0), some (2, 1)] [] [(2, 0), (2, 1), (3, 0), (3, 3), (0, 0), (3, 4), (3, 5), (3, 6), (3, 7)] [.inl (0, [(3, 1), (3, 2), (0, 0)]), .inr (8, []), .inr (8, []), .inr (3, []), .inr (768, []), .inr (3, []), .inr (3, []), .inr (256, [])]
  refine KK.aload hx (j := 0) (i := 0) (by decide +kernel) rfl rfl (fun _ _ _ _ _ => ⟨_, rfl⟩) ?_
  refine KK.ic hx (n := 0) (by decide +kernel) ?_
  refine KK.pf hx (idx := 42) (j := 4) (q := (0, 0)) (by decide +kernel) ck5 (by decide) fl_5_42 rfl (fun _ _ _ _ => ⟨rfl, rfl⟩) (by decide) ?_
  show KW X 3 (some 5) 69 [some (1, 0), some (2, 0), some (2, 1)] [] [(2, 0), (2, 1), (3, 0), (3, 3), (0, 0), (3, 4), (3, 5), (3, 6), (3, 7)] [.inl (0, [(3, 1), (3, 2), (0, 0)]), .inr (8, []), .inr (8, []), .inr (3, []), .inr (768, []), .inr (3, []), .inr (3, []), .inr (256, [])]
  exact hret _ _ (by decide +kernel)
abbrev kF_1 : List kv := [(2, 0), (3, 0), (3, 3), (0, 0)]
abbrev kC_1 : List kc := [.inl (0, [(3, 1), (3, 2), (0, 0)]), .inr (8, []), .inr (8, []), .inr (8, [])]
set_option maxRecDepth 20000 in
theorem km_1 : KM yX1_init cX1_init 2 2 32 1 [(4, 0), (4, 0), (4, 0), (0, 0)] [(2, 0)] kF_1 kC_1 := by
  refine KM.of (own := RX1) (by decide +kernel) rfl rfl (by decide) ?_
  intro X hx hav hret
  refine KK.aload hx (j := 0) (i := 0) (by decide +kernel) rfl rfl (fun _ _ _ _ _ => ⟨_, rfl⟩) ?_
  refine KK.obj hx (idx := 3) (by decide +kernel) ol_1_3 oi_i oi_c (by decide) (by decide) ?_
  refine KK.aload hx (j := 0) (i := 0) (by decide +kernel) rfl rfl (fun _ _ _ _ _ => ⟨_, rfl⟩) ?_
  refine KK.new hx (idx := 9) (by decide +kernel) ck0 cl_1_9 it_0 in_0 [(4, 0), (4, 0), (0, 0)] rfl (hfs0) (by decide) (by decide) ?_
  show KW X 2 (some 1) 8 [some (1, 0), some (2, 0)] [(3, 0), (1, 0)] [(4, 0), (4, 0), (4, 0), (0, 0)] [.inl (0, [(4, 0), (4, 0), (0, 0)])]
  refine KK.dup hx (by decide +kernel) (by decide) ?_
  refine KK.call hx (idx := 11) (j0 := 0) (bs := []) (km_0) (by decide +kernel) wbi_0 kl_1_11 imi_0 rfl dsi_0 rfl rfl (fun _ _ _ _ => ⟨rfl, okl (by decide)⟩) (by decide) (fun _ _ _ => (show 1 + (1 + (0)) ≤ 8 by decide)) (by decide) (by decide) (by decide) (by decide) ?_
  show KW X 2 (some 1) 12 [some (1, 0), some (2, 0)] [(3, 0), (1, 0)] [(4, 0), (4, 0), (4, 0), (0, 0)] [.inl (0, [(3, 1), (3, 2), (0, 0)]), .inr (8, []), .inr (8, [])]
  refine KK.pF hx (idx := 12) (j := 1) (q := (3, 0)) (by decide +kernel) ck1 (by decide) fl_1_12 rfl rfl (fun _ _ _ _ => ⟨rfl, rfl⟩) (by decide) ?_
  show KW X 2 (some 1) 15 [some (1, 0), some (2, 0)] [] [(4, 0), (3, 0), (4, 0), (0, 0)] [.inl (0, [(3, 1), (3, 2), (0, 0)]), .inr (8, []), .inr (8, [])]
  refine KK.aload hx (j := 0) (i := 0) (by decide +kernel) rfl rfl (fun _ _ _ _ _ => ⟨_, rfl⟩) ?_
  refine KK.bi hx (n := 8) (by decide +kernel) (by decide) ?_
  refine KK.newa hx (N := 8) (by decide +kernel) wac rfl (by decide) (by decide) (by decide) ?_
  show KW X 2 (some 1) 20 [some (1, 0), some (2, 0)] [(3, 3), (1, 0)] [(4, 0), (3, 0), (4, 0), (0, 0)] [.inl (0, [(3, 1), (3, 2), (0, 0)]), .inr (8, []), .inr (8, []), .inr (8, [])]
  refine KK.pF hx (idx := 18) (j := 2) (q := (3, 3)) (by decide +kernel) ck1 (by decide) fl_1_18 rfl rfl (fun _ _ _ _ => ⟨rfl, rfl⟩) (by decide) ?_
  show KW X 2 (some 1) 23 [some (1, 0), some (2, 0)] [] [(4, 0), (3, 0), (3, 3), (0, 0)] [.inl (0, [(3, 1), (3, 2), (0, 0)]), .inr (8, []), .inr (8, []), .inr (8, [])]
  refine KK.aload hx (j := 0) (i := 0) (by decide +kernel) rfl rfl (fun _ _ _ _ _ => ⟨_, rfl⟩) ?_
  refine KK.aload hx (j := 1) (i := 1) (by decide +kernel) rfl rfl (ra2 hav 0 (by decide)) ?_
  refine KK.pF hx (idx := 22) (j := 0) (q := (2, 0)) (by decide +kernel) ck1 (by decide) fl_1_22 rfl rfl (ho2 hav 0 (by decide) (fun _ => ⟨rfl, rfl⟩)) (by decide) ?_
  show KW X 2 (some 1) 28 [some (1, 0), some (2, 0)] [] [(2, 0), (3, 0), (3, 3), (0, 0)] [.inl (0, [(3, 1), (3, 2), (0, 0)]), .inr (8, []), .inr (8, []), .inr (8, [])]
  refine KK.aload hx (j := 0) (i := 0) (by decide +kernel) rfl rfl (fun _ _ _ _ _ => ⟨_, rfl⟩) ?_
  refine KK.ic hx (n := 0) (by decide +kernel) ?_
  refine KK.pf hx (idx := 26) (j := 3) (q := (0, 0)) (by decide +kernel) ck1 (by decide) fl_1_26 rfl (fun _ _ _ _ => ⟨rfl, rfl⟩) (by decide) ?_
  show KW X 2 (some 1) 33 [some (1, 0), some (2, 0)] [] [(2, 0), (3, 0), (3, 3), (0, 0)] [.inl (0, [(3, 1), (3, 2), (0, 0)]), .inr (8, []), .inr (8, []), .inr (8, [])]
  exact hret _ _ (by decide +kernel)
abbrev kF_2 : List kv := [(2, 0), (3, 0)]
abbrev kC_2 : List kc := [.inr (12, [])]
set_option maxRecDepth 20000 in
theorem km_2 : KM yX2_init cX2_init 2 1 12 2 [(4, 0), (4, 0)] [(2, 0)] kF_2 kC_2 := by
  refine KM.of (own := RX2) (by decide +kernel) rfl rfl (by decide) ?_
  intro X hx hav hret
  refine KK.aload hx (j := 0) (i := 0) (by decide +kernel) rfl rfl (fun _ _ _ _ _ => ⟨_, rfl⟩) ?_
  refine KK.obj hx (idx := 3) (by decide +kernel) ol_2_3 oi_i oi_c (by decide) (by decide) ?_
  refine KK.aload hx (j := 0) (i := 0) (by decide +kernel) rfl rfl (fun _ _ _ _ _ => ⟨_, rfl⟩) ?_
  refine KK.bi hx (n := 12) (by decide +kernel) (by decide) ?_
  refine KK.newa hx (N := 12) (by decide +kernel) wac rfl (by decide) (by decide) (by decide) ?_
  show KW X 2 (some 2) 9 [some (1, 0), some (2, 0)] [(3, 0), (1, 0)] [(4, 0), (4, 0)] [.inr (12, [])]
  refine KK.pF hx (idx := 9) (j := 1) (q := (3, 0)) (by decide +kernel) ck2 (by decide) fl_2_9 rfl rfl (fun _ _ _ _ => ⟨rfl, rfl⟩) (by decide) ?_
  show KW X 2 (some 2) 12 [some (1, 0), some (2, 0)] [] [(4, 0), (3, 0)] [.inr (12, [])]
  refine KK.aload hx (j := 0) (i := 0) (by decide +kernel) rfl rfl (fun _ _ _ _ _ => ⟨_, rfl⟩) ?_
  refine KK.aload hx (j := 1) (i := 1) (by decide +kernel) rfl rfl (ra2 hav 0 (by decide)) ?_
  refine KK.pF hx (idx := 15) (j := 0) (q := (2, 0)) (by decide +kernel) ck2 (by decide) fl_2_15 rfl rfl (ho2 hav 0 (by decide) (fun _ => ⟨rfl, rfl⟩)) (by decide) ?_
  show KW X 2 (some 2) 17 [some (1, 0), some (2, 0)] [] [(2, 0), (3, 0)] [.inr (12, [])]
  exact hret _ _ (by decide +kernel)
abbrev kF_7 : List kv := [(3, 0), (0, 0), (3, 1), (3, 2), (0, 0), (0, 0), (3, 3)]
abbrev kC_7 : List kc := [.inr (200, []), .inr (201, []), .inr (201, []), .inl (8, [(0, 5), (0, 8), (3, 4), (0, 0)]), .inr (40, [])]
set_option maxRecDepth 20000 in
theorem km_7 : KM yX7_init cX7_init 1 2 43 7 [(4, 0), (0, 0), (4, 0), (4, 0), (0, 0), (0, 0), (4, 0)] [] kF_7 kC_7 := by
  refine KM.of (own := RX7) (by decide +kernel) rfl rfl (by decide) ?_
  intro X hx hav hret
  refine KK.aload hx (j := 0) (i := 0) (by decide +kernel) rfl rfl (fun _ _ _ _ _ => ⟨_, rfl⟩) ?_
  refine KK.obj hx (idx := 3) (by decide +kernel) ol_7_3 oi_i oi_c (by decide) (by decide) ?_
  refine KK.aload hx (j := 0) (i := 0) (by decide +kernel) rfl rfl (fun _ _ _ _ _ => ⟨_, rfl⟩) ?_
  refine KK.si hx (n := 200) (by decide +kernel) (by decide) ?_
  refine KK.newa hx (N := 200) (by decide +kernel) wac rfl (by decide) (by decide) (by decide) ?_
  show KW X 1 (some 7) 10 [some (1, 0)] [(3, 0), (1, 0)] [(4, 0), (0, 0), (4, 0), (4, 0), (0, 0), (0, 0), (4, 0)] [.inr (200, [])]
  refine KK.pF hx (idx := 11) (j := 0) (q := (3, 0)) (by decide +kernel) ck7 (by decide) fl_7_11 rfl rfl (fun _ _ _ _ => ⟨rfl, rfl⟩) (by decide) ?_
  show KW X 1 (some 7) 13 [some (1, 0)] [] [(3, 0), (0, 0), (4, 0), (4, 0), (0, 0), (0, 0), (4, 0)] [.inr (200, [])]
  refine KK.aload hx (j := 0) (i := 0) (by decide +kernel) rfl rfl (fun _ _ _ _ _ => ⟨_, rfl⟩) ?_
  refine KK.si hx (n := 201) (by decide +kernel) (by decide) ?_
  refine KK.newa hx (N := 201) (by decide +kernel) wac rfl (by decide) (by decide) (by decide) ?_
  show KW X 1 (some 7) 19 [some (1, 0)] [(3, 1), (1, 0)] [(3, 0), (0, 0), (4, 0), (4, 0), (0, 0), (0, 0), (4, 0)] [.inr (200, []), .inr (201, [])]
  refine KK.pF hx (idx := 15) (j := 2) (q := (3, 1)) (by decide +kernel) ck7 (by decide) fl_7_15 rfl rfl (fun _ _ _ _ => ⟨rfl, rfl⟩) (by decide) ?_
  show KW X 1 (some 7) 22 [some (1, 0)] [] [(3, 0), (0, 0), (3, 1), (4, 0), (0, 0), (0, 0), (4, 0)] [.inr (200, []), .inr (201, [])]
  refine KK.aload hx (j := 0) (i := 0) (by decide +kernel) rfl rfl (fun _ _ _ _ _ => ⟨_, rfl⟩) ?_
  refine KK.si hx (n := 201) (by decide +kernel) (by decide) ?_
  refine KK.newa hx (N := 201) (by decide +kernel) wac rfl (by decide) (by decide) (by decide) ?_
  show KW X 1 (some 7) 28 [some (1, 0)] [(3, 2), (1, 0)] [(3, 0), (0, 0), (3, 1), (4, 0), (0, 0), (0, 0), (4, 0)] [.inr (200, []), .inr (201, []), .inr (201, [])]
  refine KK.pF hx (idx := 18) (j := 3) (q := (3, 2)) (by decide +kernel) ck7 (by decide) fl_7_18 rfl rfl (fun _ _ _ _ => ⟨rfl, rfl⟩) (by decide) ?_
  show KW X 1 (some 7) 31 [some (1, 0)] [] [(3, 0), (0, 0), (3, 1), (3, 2), (0, 0), (0, 0), (4, 0)] [.inr (200, []), .inr (201, []), .inr (201, [])]
  refine KK.aload hx (j := 0) (i := 0) (by decide +kernel) rfl rfl (fun _ _ _ _ _ => ⟨_, rfl⟩) ?_
  refine KK.new hx (idx := 21) (by decide +kernel) ck8 cl_7_21 it_8 in_8 [(0, 0), (0, 0), (4, 0), (0, 0)] rfl (hfs8) (by decide) (by decide) ?_
  show KW X 1 (some 7) 35 [some (1, 0)] [(3, 3), (1, 0)] [(3, 0), (0, 0), (3, 1), (3, 2), (0, 0), (0, 0), (4, 0)] [.inr (200, []), .inr (201, []), .inr (201, []), .inl (8, [(0, 0), (0, 0), (4, 0), (0, 0)])]
  refine KK.dup hx (by decide +kernel) (by decide) ?_
  refine KK.ic hx (n := 5) (by decide +kernel) ?_
  refine KK.bi hx (n := 8) (by decide +kernel) (by decide) ?_
  refine KK.call hx (idx := 23) (j0 := 3) (bs := [(0, 5), (0, 8)]) (km_8 5 8 (by decide) (by decide)) (by decide +kernel) wbi_8 kl_7_23 imi_8 rfl dsi_8 rfl rfl (fun _ _ _ _ => ⟨rfl, okl (by decide)⟩) (by decide) (fun _ _ _ => (show 1 + (1 + (0)) ≤ 8 by decide)) (by decide) (by decide) (by decide) (by decide) ?_
  show KW X 1 (some 7) 42 [some (1, 0)] [(3, 3), (1, 0)] [(3, 0), (0, 0), (3, 1), (3, 2), (0, 0), (0, 0), (4, 0)] [.inr (200, []), .inr (201, []), .inr (201, []), .inl (8, [(0, 5), (0, 8), (3, 4), (0, 0)]), .inr (40, [])]
  refine KK.pF hx (idx := 26) (j := 6) (q := (3, 3)) (by decide +kernel) ck7 (by decide) fl_7_26 rfl rfl (fun _ _ _ _ => ⟨rfl, rfl⟩) (by decide) ?_
  show KW X 1 (some 7) 45 [some (1, 0)] [] [(3, 0), (0, 0), (3, 1), (3, 2), (0, 0), (0, 0), (3, 3)] [.inr (200, []), .inr (201, []), .inr (201, []), .inl (8, [(0, 5), (0, 8), (3, 4), (0, 0)]), .inr (40, [])]
  refine KK.aload hx (j := 0) (i := 0) (by decide +kernel) rfl rfl (fun _ _ _ _ _ => ⟨_, rfl⟩) ?_
  refine KK.ic hx (n := 0) (by decide +kernel) ?_
  refine KK.pf hx (idx := 30) (j := 1) (q := (0, 0)) (by decide +kernel) ck7 (by decide) fl_7_30 rfl (fun _ _ _ _ => ⟨rfl, rfl⟩) (by decide) ?_
  show KW X 1 (some 7) 50 [some (1, 0)] [] [(3, 0), (0, 0), (3, 1), (3, 2), (0, 0), (0, 0), (3, 3)] [.inr (200, []), .inr (201, []), .inr (201, []), .inl (8, [(0, 5), (0, 8), (3, 4), (0, 0)]), .inr (40, [])]
  refine KK.aload hx (j := 0) (i := 0) (by decide +kernel) rfl rfl (fun _ _ _ _ _ => ⟨_, rfl⟩) ?_
  refine KK.ic hx (n := 0) (by decide +kernel) ?_
  refine KK.pf hx (idx := 34) (j := 4) (q := (0, 0)) (by decide +kernel) ck7 (by decide) fl_7_34 rfl (fun _ _ _ _ => ⟨rfl, rfl⟩) (by decide) ?_
  show KW X 1 (some 7) 55 [some (1, 0)] [] [(3, 0), (0, 0), (3, 1), (3, 2), (0, 0), (0, 0), (3, 3)] [.inr (200, []), .inr (201, []), .inr (201, []), .inl (8, [(0, 5), (0, 8), (3, 4), (0, 0)]), .inr (40, [])]
  refine KK.aload hx (j := 0) (i := 0) (by decide +kernel) rfl rfl (fun _ _ _ _ _ => ⟨_, rfl⟩) ?_
  refine KK.ic hx (n := 0) (by decide +kernel) ?_
  refine KK.pf hx (idx := 37) (j := 5) (q := (0, 0)) (by decide +kernel) ck7 (by decide) fl_7_37 rfl (fun _ _ _ _ => ⟨rfl, rfl⟩) (by decide) ?_
  show KW X 1 (some 7) 60 [some (1, 0)] [] [(3, 0), (0, 0), (3, 1), (3, 2), (0, 0), (0, 0), (3, 3)] [.inr (200, []), .inr (201, []), .inr (201, []), .inl (8, [(0, 5), (0, 8), (3, 4), (0, 0)]), .inr (40, [])]
  exact hret _ _ (by decide +kernel)
abbrev kF_3 : List kv := [(2, 0), (3, 0)]
abbrev kC_3 : List kc := [.inr (5, [])]
set_option maxRecDepth 20000 in
theorem km_3 : KM yX3_init cX3_init 2 1 12 3 [(4, 0), (4, 0)] [(2, 0)] kF_3 kC_3 := by
  refine KM.of (own := RX3) (by decide +kernel) rfl rfl (by decide) ?_
  intro X hx hav hret
  refine KK.aload hx (j := 0) (i := 0) (by decide +kernel) rfl rfl (fun _ _ _ _ _ => ⟨_, rfl⟩) ?_
  refine KK.obj hx (idx := 3) (by decide +kernel) ol_3_3 oi_i oi_c (by decide) (by decide) ?_
  refine KK.aload hx (j := 0) (i := 0) (by decide +kernel) rfl rfl (fun _ _ _ _ _ => ⟨_, rfl⟩) ?_
  refine KK.ic hx (n := 5) (by decide +kernel) ?_
  refine KK.newa hx (N := 5) (by decide +kernel) wac rfl (by decide) (by decide) (by decide) ?_
  show KW X 2 (some 3) 8 [some (1, 0), some (2, 0)] [(3, 0), (1, 0)] [(4, 0), (4, 0)] [.inr (5, [])]
  refine KK.pF hx (idx := 9) (j := 1) (q := (3, 0)) (by decide +kernel) ck3 (by decide) fl_3_9 rfl rfl (fun _ _ _ _ => ⟨rfl, rfl⟩) (by decide) ?_
  show KW X 2 (some 3) 11 [some (1, 0), some (2, 0)] [] [(4, 0), (3, 0)] [.inr (5, [])]
  refine KK.aload hx (j := 0) (i := 0) (by decide +kernel) rfl rfl (fun _ _ _ _ _ => ⟨_, rfl⟩) ?_
  refine KK.aload hx (j := 1) (i := 1) (by decide +kernel) rfl rfl (ra2 hav 0 (by decide)) ?_
  refine KK.pF hx (idx := 15) (j := 0) (q := (2, 0)) (by decide +kernel) ck3 (by decide) fl_3_15 rfl rfl (ho2 hav 0 (by decide) (fun _ => ⟨rfl, rfl⟩)) (by decide) ?_
  show KW X 2 (some 3) 16 [some (1, 0), some (2, 0)] [] [(2, 0), (3, 0)] [.inr (5, [])]
  exact hret _ _ (by decide +kernel)
abbrev kF_6 : List kv := [(2, 0), (2, 1), (3, 0), (0, 0), (3, 1), (3, 2), (3, 3), (3, 4), (3, 5), (0, (-3))]
abbrev kC_6 : List kc := [.inr (6, []), .inr (48, []), .inr (7, []), .inr (8, []), .inr (6, []), .inr (6, [])]
set_option maxRecDepth 20000 in
theorem km_6 : KM yX6_init cX6_init 3 1 12 6 [(4, 0), (4, 0), (4, 0), (0, 0), (4, 0), (4, 0), (4, 0), (4, 0), (4, 0), (0, 0)] [(2, 0), (2, 1)] kF_6 kC_6 := by
  refine KM.of (own := RX6) (by decide +kernel) rfl rfl (by decide) ?_
  intro X hx hav hret
  refine KK.aload hx (j := 0) (i := 0) (by decide +kernel) rfl rfl (fun _ _ _ _ _ => ⟨_, rfl⟩) ?_
  refine KK.obj hx (idx := 3) (by decide +kernel) ol_6_3 oi_i oi_c (by decide) (by decide) ?_
  refine KK.aload hx (j := 0) (i := 0) (by decide +kernel) rfl rfl (fun _ _ _ _ _ => ⟨_, rfl⟩) ?_
  refine KK.bi hx (n := 6) (by decide +kernel) (by decide) ?_
  refine KK.newa hx (N := 6) (by decide +kernel) wac rfl (by decide) (by decide) (by decide) ?_
  show KW X 3 (some 6) 9 [some (1, 0), some (2, 0), some (2, 1)] [(3, 0), (1, 0)] [(4, 0), (4, 0), (4, 0), (0, 0), (4, 0), (4, 0), (4, 0), (4, 0), (4, 0), (0, 0)] [.inr (6, [])]
  refine KK.pF hx (idx := 9) (j := 2) (q := (3, 0)) (by decide +kernel) ck6 (by decide) fl_6_9 rfl rfl (fun _ _ _ _ => ⟨rfl, rfl⟩) (by decide) ?_
  show KW X 3 (some 6) 12 [some (1, 0), some (2, 0), some (2, 1)] [] [(4, 0), (4, 0), (3, 0), (0, 0), (4, 0), (4, 0), (4, 0), (4, 0), (4, 0), (0, 0)] [.inr (6, [])]
  refine KK.aload hx (j := 0) (i := 0) (by decide +kernel) rfl rfl (fun _ _ _ _ _ => ⟨_, rfl⟩) ?_
  refine KK.bi hx (n := 48) (by decide +kernel) (by decide) ?_
  refine KK.newa hx (N := 48) (by decide +kernel) wac rfl (by decide) (by decide) (by decide) ?_
  show KW X 3 (some 6) 17 [some (1, 0), some (2, 0), some (2, 1)] [(3, 1), (1, 0)] [(4, 0), (4, 0), (3, 0), (0, 0), (4, 0), (4, 0), (4, 0), (4, 0), (4, 0), (0, 0)] [.inr (6, []), .inr (48, [])]
  refine KK.pF hx (idx := 15) (j := 4) (q := (3, 1)) (by decide +kernel) ck6 (by decide) fl_6_15 rfl rfl (fun _ _ _ _ => ⟨rfl, rfl⟩) (by decide) ?_
  show KW X 3 (some 6) 20 [some (1, 0), some (2, 0), some (2, 1)] [] [(4, 0), (4, 0), (3, 0), (0, 0), (3, 1), (4, 0), (4, 0), (4, 0), (4, 0), (0, 0)] [.inr (6, []), .inr (48, [])]
  refine KK.aload hx (j := 0) (i := 0) (by decide +kernel) rfl rfl (fun _ _ _ _ _ => ⟨_, rfl⟩) ?_
  refine KK.bi hx (n := 7) (by decide +kernel) (by decide) ?_
  refine KK.newa hx (N := 7) (by decide +kernel) wac rfl (by decide) (by decide) (by decide) ?_
  show KW X 3 (some 6) 25 [some (1, 0), some (2, 0), some (2, 1)] [(3, 2), (1, 0)] [(4, 0), (4, 0), (3, 0), (0, 0), (3, 1), (4, 0), (4, 0), (4, 0), (4, 0), (0, 0)] [.inr (6, []), .inr (48, []), .inr (7, [])]
  refine KK.pF hx (idx := 18) (j := 5) (q := (3, 2)) (by decide +kernel) ck6 (by decide) fl_6_18 rfl rfl (fun _ _ _ _ => ⟨rfl, rfl⟩) (by decide) ?_
  show KW X 3 (some 6) 28 [some (1, 0), some (2, 0), some (2, 1)] [] [(4, 0), (4, 0), (3, 0), (0, 0), (3, 1), (3, 2), (4, 0), (4, 0), (4, 0), (0, 0)] [.inr (6, []), .inr (48, []), .inr (7, [])]
  refine KK.aload hx (j := 0) (i := 0) (by decide +kernel) rfl rfl (fun _ _ _ _ _ => ⟨_, rfl⟩) ?_
  refine KK.bi hx (n := 8) (by decide +kernel) (by decide) ?_
  refine KK.newa hx (N := 8) (by decide +kernel) wac rfl (by decide) (by decide) (by decide) ?_
  show KW X 3 (some 6) 33 [some (1, 0), some (2, 0), some (2, 1)] [(3, 3), (1, 0)] [(4, 0), (4, 0), (3, 0), (0, 0), (3, 1), (3, 2), (4, 0), (4, 0), (4, 0), (0, 0)] [.inr (6, []), .inr (48, []), .inr (7, []), .inr (8, [])]
  refine KK.pF hx (idx := 21) (j := 6) (q := (3, 3)) (by decide +kernel) ck6 (by decide) fl_6_21 rfl rfl (fun _ _ _ _ => ⟨rfl, rfl⟩) (by decide) ?_
  show KW X 3 (some 6) 36 [some (1, 0), some (2, 0), some (2, 1)] [] [(4, 0), (4, 0), (3, 0), (0, 0), (3, 1), (3, 2), (3, 3), (4, 0), (4, 0), (0, 0)] [.inr (6, []), .inr (48, []), .inr (7, []), .inr (8, [])]
  refine KK.aload hx (j := 0) (i := 0) (by decide +kernel) rfl rfl (fun _ _ _ _ _ => ⟨_, rfl⟩) ?_
  refine KK.bi hx (n := 6) (by decide +kernel) (by decide) ?_
  refine KK.newa hx (N := 6) (by decide +kernel) wac rfl (by decide) (by decide) (by decide) ?_
  show KW X 3 (some 6) 41 [some (1, 0), some (2, 0), some (2, 1)] [(3, 4), (1, 0)] [(4, 0), (4, 0), (3, 0), (0, 0), (3, 1), (3, 2), (3, 3), (4, 0), (4, 0), (0, 0)] [.inr (6, []), .inr (48, []), .inr (7, []), .inr (8, []), .inr (6, [])]
  refine KK.pF hx (idx := 24) (j := 7) (q := (3, 4)) (by decide +kernel) ck6 (by decide) fl_6_24 rfl rfl (fun _ _ _ _ => ⟨rfl, rfl⟩) (by decide) ?_
  show KW X 3 (some 6) 44 [some (1, 0), some (2, 0), some (2, 1)] [] [(4, 0), (4, 0), (3, 0), (0, 0), (3, 1), (3, 2), (3, 3), (3, 4), (4, 0), (0, 0)] [.inr (6, []), .inr (48, []), .inr (7, []), .inr (8, []), .inr (6, [])]
  refine KK.aload hx (j := 0) (i := 0) (by decide +kernel) rfl rfl (fun _ _ _ _ _ => ⟨_, rfl⟩) ?_
  refine KK.bi hx (n := 6) (by decide +kernel) (by decide) ?_
  refine KK.newa hx (N := 6) (by decide +kernel) wac rfl (by decide) (by decide) (by decide) ?_
  show KW X 3 (some 6) 49 [some (1, 0), some (2, 0), some (2, 1)] [(3, 5), (1, 0)] [(4, 0), (4, 0), (3, 0), (0, 0), (3, 1), (3, 2), (3, 3), (3, 4), (4, 0), (0, 0)] [.inr (6, []), .inr (48, []), .inr (7, []), .inr (8, []), .inr (6, []), .inr (6, [])]
  refine KK.pF hx (idx := 27) (j := 8) (q := (3, 5)) (by decide +kernel) ck6 (by decide) fl_6_27 rfl rfl (fun _ _ _ _ => ⟨rfl, rfl⟩) (by decide) ?_
  show KW X 3 (some 6) 52 [some (1, 0), some (2, 0), some (2, 1)] [] [(4, 0), (4, 0), (3, 0), (0, 0), (3, 1), (3, 2), (3, 3), (3, 4), (3, 5), (0, 0)] [.inr (6, []), .inr (48, []), .inr (7, []), .inr (8, []), .inr (6, []), .inr (6, [])]
  refine KK.aload hx (j := 0) (i := 0) (by decide +kernel) rfl rfl (fun _ _ _ _ _ => ⟨_, rfl⟩) ?_
  refine KK.aload hx (j := 1) (i := 1) (by decide +kernel) rfl rfl (ra2 hav 0 (by decide)) ?_
  refine KK.pF hx (idx := 30) (j := 0) (q := (2, 0)) (by decide +kernel) ck6 (by decide) fl_6_30 rfl rfl (ho2 hav 0 (by decide) (fun _ => ⟨rfl, rfl⟩)) (by decide) ?_
  show KW X 3 (some 6) 57 [some (1, 0), some (2, 0), some (2, 1)] [] [(2, 0), (4, 0), (3, 0), (0, 0), (3, 1), (3, 2), (3, 3), (3, 4), (3, 5), (0, 0)] [.inr (6, []), .inr (48, []), .inr (7, []), .inr (8, []), .inr (6, []), .inr (6, [])]
  refine KK.aload hx (j := 0) (i := 0) (by decide +kernel) rfl rfl (fun _ _ _ _ _ => ⟨_, rfl⟩) ?_
  refine KK.aload hx (j := 2) (i := 2) (by decide +kernel) rfl rfl (ra2 hav 1 (by decide)) ?_
  refine KK.pF hx (idx := 34) (j := 1) (q := (2, 1)) (by decide +kernel) ck6 (by decide) fl_6_34 rfl rfl (ho2 hav 1 (by decide) (fun _ => ⟨rfl, rfl⟩)) (by decide) ?_
  show KW X 3 (some 6) 62 [some (1, 0), some (2, 0), some (2, 1)] [] [(2, 0), (2, 1), (3, 0), (0, 0), (3, 1), (3, 2), (3, 3), (3, 4), (3, 5), (0, 0)] [.inr (6, []), .inr (48, []), .inr (7, []), .inr (8, []), .inr (6, []), .inr (6, [])]
  refine KK.aload hx (j := 0) (i := 0) (by decide +kernel) rfl rfl (fun _ _ _ _ _ => ⟨_, rfl⟩) ?_
  refine KK.ic hx (n := 0) (by decide +kernel) ?_
  refine KK.pf hx (idx := 38) (j := 3) (q := (0, 0)) (by decide +kernel) ck6 (by decide) fl_6_38 rfl (fun _ _ _ _ => ⟨rfl, rfl⟩) (by decide) ?_
  show KW X 3 (some 6) 67 [some (1, 0), some (2, 0), some (2, 1)] [] [(2, 0), (2, 1), (3, 0), (0, 0), (3, 1), (3, 2), (3, 3), (3, 4), (3, 5), (0, 0)] [.inr (6, []), .inr (48, []), .inr (7, []), .inr (8, []), .inr (6, []), .inr (6, [])]
  refine KK.aload hx (j := 0) (i := 0) (by decide +kernel) rfl rfl (fun _ _ _ _ _ => ⟨_, rfl⟩) ?_
  refine KK.bi hx (n := -3) (by decide +kernel) (by decide) ?_
  refine KK.pf hx (idx := 42) (j := 9) (q := (0, (-3))) (by decide +kernel) ck6 (by decide) fl_6_42 rfl (fun _ _ _ _ => ⟨rfl, rfl⟩) (by decide) ?_
  show KW X 3 (some 6) 73 [some (1, 0), some (2, 0), some (2, 1)] [] [(2, 0), (2, 1), (3, 0), (0, 0), (3, 1), (3, 2), (3, 3), (3, 4), (3, 5), (0, (-3))] [.inr (6, []), .inr (48, []), .inr (7, []), .inr (8, []), .inr (6, []), .inr (6, [])]
  exact hret _ _ (by decide +kernel)
abbrev kF_4 : List kv := [(2, 0), (3, 0), (3, 1), (3, 2), (3, 3), (3, 4), (3, 5), (3, 6), (0, 0), (0, (-1)), (0, 0), (0, 0)]
abbrev kC_4 : List kc := [.inr (4, [(-1), (-1), (-1), (-1)]), .inr (4, []), .inr (160, []), .inr (4, [4, 4, 4, 4]), .inr (4, []), .inr (4, []), .inr (30, [])]
set_option maxRecDepth 20000 in
theorem km_4 : KM yX4_init cX4_init 2 1 23 4 [(4, 0), (4, 0), (4, 0), (4, 0), (4, 0), (4, 0), (4, 0), (4, 0), (0, 0), (0, 0), (0, 0), (0, 0)] [(2, 0)] kF_4 kC_4 := by
  refine KM.of (own := RX4) (by decide +kernel) rfl rfl (by decide) ?_
  intro X hx hav hret
  refine KK.aload hx (j := 0) (i := 0) (by decide +kernel) rfl rfl (fun _ _ _ _ _ => ⟨_, rfl⟩) ?_
  refine KK.obj hx (idx := 1) (by decide +kernel) ol_4_1 oi_i oi_c (by decide) (by decide) ?_
  refine KK.aload hx (j := 0) (i := 0) (by decide +kernel) rfl rfl (fun _ _ _ _ _ => ⟨_, rfl⟩) ?_
  refine KK.ic hx (n := 4) (by decide +kernel) ?_
  refine KK.newa hx (N := 4) (by decide +kernel) wac rfl (by decide) (by decide) (by decide) ?_
  show KW X 2 (some 4) 8 [some (1, 0), some (2, 0)] [(3, 0), (1, 0)] [(4, 0), (4, 0), (4, 0), (4, 0), (4, 0), (4, 0), (4, 0), (4, 0), (0, 0), (0, 0), (0, 0), (0, 0)] [.inr (4, [])]
  refine KK.pF hx (idx := 9) (j := 1) (q := (3, 0)) (by decide +kernel) ck4 (by decide) fl_4_9 rfl rfl (fun _ _ _ _ => ⟨rfl, rfl⟩) (by decide) ?_
  show KW X 2 (some 4) 11 [some (1, 0), some (2, 0)] [] [(4, 0), (3, 0), (4, 0), (4, 0), (4, 0), (4, 0), (4, 0), (4, 0), (0, 0), (0, 0), (0, 0), (0, 0)] [.inr (4, [])]
  refine KK.aload hx (j := 0) (i := 0) (by decide +kernel) rfl rfl (fun _ _ _ _ _ => ⟨_, rfl⟩) ?_
  refine KK.ic hx (n := 4) (by decide +kernel) ?_
  refine KK.newa hx (N := 4) (by decide +kernel) wac rfl (by decide) (by decide) (by decide) ?_
  show KW X 2 (some 4) 15 [some (1, 0), some (2, 0)] [(3, 1), (1, 0)] [(4, 0), (3, 0), (4, 0), (4, 0), (4, 0), (4, 0), (4, 0), (4, 0), (0, 0), (0, 0), (0, 0), (0, 0)] [.inr (4, []), .inr (4, [])]
  refine KK.pF hx (idx := 13) (j := 2) (q := (3, 1)) (by decide +kernel) ck4 (by decide) fl_4_13 rfl rfl (fun _ _ _ _ => ⟨rfl, rfl⟩) (by decide) ?_
  show KW X 2 (some 4) 18 [some (1, 0), some (2, 0)] [] [(4, 0), (3, 0), (3, 1), (4, 0), (4, 0), (4, 0), (4, 0), (4, 0), (0, 0), (0, 0), (0, 0), (0, 0)] [.inr (4, []), .inr (4, [])]
  refine KK.aload hx (j := 0) (i := 0) (by decide +kernel) rfl rfl (fun _ _ _ _ _ => ⟨_, rfl⟩) ?_
  refine KK.si hx (n := 160) (by decide +kernel) (by decide) ?_
  refine KK.newa hx (N := 160) (by decide +kernel) wac rfl (by decide) (by decide) (by decide) ?_
  show KW X 2 (some 4) 24 [some (1, 0), some (2, 0)] [(3, 2), (1, 0)] [(4, 0), (3, 0), (3, 1), (4, 0), (4, 0), (4, 0), (4, 0), (4, 0), (0, 0), (0, 0), (0, 0), (0, 0)] [.inr (4, []), .inr (4, []), .inr (160, [])]
  refine KK.pF hx (idx := 16) (j := 3) (q := (3, 2)) (by decide +kernel) ck4 (by decide) fl_4_16 rfl rfl (fun _ _ _ _ => ⟨rfl, rfl⟩) (by decide) ?_
  show KW X 2 (some 4) 27 [some (1, 0), some (2, 0)] [] [(4, 0), (3, 0), (3, 1), (3, 2), (4, 0), (4, 0), (4, 0), (4, 0), (0, 0), (0, 0), (0, 0), (0, 0)] [.inr (4, []), .inr (4, []), .inr (160, [])]
  refine KK.aload hx (j := 0) (i := 0) (by decide +kernel) rfl rfl (fun _ _ _ _ _ => ⟨_, rfl⟩) ?_
  refine KK.ic hx (n := 4) (by decide +kernel) ?_
  refine KK.newa hx (N := 4) (by decide +kernel) wac rfl (by decide) (by decide) (by decide) ?_
  show KW X 2 (some 4) 31 [some (1, 0), some (2, 0)] [(3, 3), (1, 0)] [(4, 0), (3, 0), (3, 1), (3, 2), (4, 0), (4, 0), (4, 0), (4, 0), (0, 0), (0, 0), (0, 0), (0, 0)] [.inr (4, []), .inr (4, []), .inr (160, []), .inr (4, [])]
  refine KK.pF hx (idx := 19) (j := 4) (q := (3, 3)) (by decide +kernel) ck4 (by decide) fl_4_19 rfl rfl (fun _ _ _ _ => ⟨rfl, rfl⟩) (by decide) ?_
  show KW X 2 (some 4) 34 [some (1, 0), some (2, 0)] [] [(4, 0), (3, 0), (3, 1), (3, 2), (3, 3), (4, 0), (4, 0), (4, 0), (0, 0), (0, 0), (0, 0), (0, 0)] [.inr (4, []), .inr (4, []), .inr (160, []), .inr (4, [])]
  refine KK.aload hx (j := 0) (i := 0) (by decide +kernel) rfl rfl (fun _ _ _ _ _ => ⟨_, rfl⟩) ?_
  refine KK.ic hx (n := 4) (by decide +kernel) ?_
  refine KK.newa hx (N := 4) (by decide +kernel) wac rfl (by decide) (by decide) (by decide) ?_
  show KW X 2 (some 4) 38 [some (1, 0), some (2, 0)] [(3, 4), (1, 0)] [(4, 0), (3, 0), (3, 1), (3, 2), (3, 3), (4, 0), (4, 0), (4, 0), (0, 0), (0, 0), (0, 0), (0, 0)] [.inr (4, []), .inr (4, []), .inr (160, []), .inr (4, []), .inr (4, [])]
  refine KK.pF hx (idx := 22) (j := 5) (q := (3, 4)) (by decide +kernel) ck4 (by decide) fl_4_22 rfl rfl (fun _ _ _ _ => ⟨rfl, rfl⟩) (by decide) ?_
  show KW X 2 (some 4) 41 [some (1, 0), some (2, 0)] [] [(4, 0), (3, 0), (3, 1), (3, 2), (3, 3), (3, 4), (4, 0), (4, 0), (0, 0), (0, 0), (0, 0), (0, 0)] [.inr (4, []), .inr (4, []), .inr (160, []), .inr (4, []), .inr (4, [])]
  refine KK.aload hx (j := 0) (i := 0) (by decide +kernel) rfl rfl (fun _ _ _ _ _ => ⟨_, rfl⟩) ?_
  refine KK.ic hx (n := 4) (by decide +kernel) ?_
  refine KK.newa hx (N := 4) (by decide +kernel) wac rfl (by decide) (by decide) (by decide) ?_
  show KW X 2 (some 4) 45 [some (1, 0), some (2, 0)] [(3, 5), (1, 0)] [(4, 0), (3, 0), (3, 1), (3, 2), (3, 3), (3, 4), (4, 0), (4, 0), (0, 0), (0, 0), (0, 0), (0, 0)] [.inr (4, []), .inr (4, []), .inr (160, []), .inr (4, []), .inr (4, []), .inr (4, [])]
  refine KK.pF hx (idx := 25) (j := 6) (q := (3, 5)) (by decide +kernel) ck4 (by decide) fl_4_25 rfl rfl (fun _ _ _ _ => ⟨rfl, rfl⟩) (by decide) ?_
  show KW X 2 (some 4) 48 [some (1, 0), some (2, 0)] [] [(4, 0), (3, 0), (3, 1), (3, 2), (3, 3), (3, 4), (3, 5), (4, 0), (0, 0), (0, 0), (0, 0), (0, 0)] [.inr (4, []), .inr (4, []), .inr (160, []), .inr (4, []), .inr (4, []), .inr (4, [])]
  refine KK.aload hx (j := 0) (i := 0) (by decide +kernel) rfl rfl (fun _ _ _ _ _ => ⟨_, rfl⟩) ?_
  refine KK.bi hx (n := 30) (by decide +kernel) (by decide) ?_
  refine KK.newa hx (N := 30) (by decide +kernel) wac rfl (by decide) (by decide) (by decide) ?_
  show KW X 2 (some 4) 53 [some (1, 0), some (2, 0)] [(3, 6), (1, 0)] [(4, 0), (3, 0), (3, 1), (3, 2), (3, 3), (3, 4), (3, 5), (4, 0), (0, 0), (0, 0), (0, 0), (0, 0)] [.inr (4, []), .inr (4, []), .inr (160, []), .inr (4, []), .inr (4, []), .inr (4, []), .inr (30, [])]
  refine KK.pF hx (idx := 28) (j := 7) (q := (3, 6)) (by decide +kernel) ck4 (by decide) fl_4_28 rfl rfl (fun _ _ _ _ => ⟨rfl, rfl⟩) (by decide) ?_
  show KW X 2 (some 4) 56 [some (1, 0), some (2, 0)] [] [(4, 0), (3, 0), (3, 1), (3, 2), (3, 3), (3, 4), (3, 5), (3, 6), (0, 0), (0, 0), (0, 0), (0, 0)] [.inr (4, []), .inr (4, []), .inr (160, []), .inr (4, []), .inr (4, []), .inr (4, []), .inr (30, [])]
  refine KK.aload hx (j := 0) (i := 0) (by decide +kernel) rfl rfl (fun _ _ _ _ _ => ⟨_, rfl⟩) ?_
  refine KK.aload hx (j := 1) (i := 1) (by decide +kernel) rfl rfl (ra2 hav 0 (by decide)) ?_
  refine KK.pF hx (idx := 31) (j := 0) (q := (2, 0)) (by decide +kernel) ck4 (by decide) fl_4_31 rfl rfl (ho2 hav 0 (by decide) (fun _ => ⟨rfl, rfl⟩)) (by decide) ?_
  show KW X 2 (some 4) 61 [some (1, 0), some (2, 0)] [] [(2, 0), (3, 0), (3, 1), (3, 2), (3, 3), (3, 4), (3, 5), (3, 6), (0, 0), (0, 0), (0, 0), (0, 0)] [.inr (4, []), .inr (4, []), .inr (160, []), .inr (4, []), .inr (4, []), .inr (4, []), .inr (30, [])]
  refine KK.aload hx (j := 0) (i := 0) (by decide +kernel) rfl rfl (fun _ _ _ _ _ => ⟨_, rfl⟩) ?_
  refine KK.gf hx (idx := 9) (j := 1) (q := (3, 0)) (by decide +kernel) ck4 (by decide) fl_4_9 rfl ?_
  refine KK.ic hx (n := (-1)) (by decide +kernel) ?_
  refine KK.fill hx (idx := 35) (j := 0) (n := 4) (v := (-1)) (by decide +kernel) ml_4_35 rfl (by decide) (fun _ _ _ => (show 0 ≤ 8 by decide)) (by decide) (by decide) (by decide) (by decide) ?_
  show KW X 2 (some 4) 69 [some (1, 0), some (2, 0)] [] [(2, 0), (3, 0), (3, 1), (3, 2), (3, 3), (3, 4), (3, 5), (3, 6), (0, 0), (0, 0), (0, 0), (0, 0)] [.inr (4, [(-1), (-1), (-1), (-1)]), .inr (4, []), .inr (160, []), .inr (4, []), .inr (4, []), .inr (4, []), .inr (30, [])]
  refine KK.aload hx (j := 0) (i := 0) (by decide +kernel) rfl rfl (fun _ _ _ _ _ => ⟨_, rfl⟩) ?_
  refine KK.gf hx (idx := 19) (j := 4) (q := (3, 3)) (by decide +kernel) ck4 (by decide) fl_4_19 rfl ?_
  refine KK.ic hx (n := 4) (by decide +kernel) ?_
  refine KK.fill hx (idx := 35) (j := 3) (n := 4) (v := 4) (by decide +kernel) ml_4_35 rfl (by decide) (fun _ _ _ => (show 0 ≤ 8 by decide)) (by decide) (by decide) (by decide) (by decide) ?_
  show KW X 2 (some 4) 77 [some (1, 0), some (2, 0)] [] [(2, 0), (3, 0), (3, 1), (3, 2), (3, 3), (3, 4), (3, 5), (3, 6), (0, 0), (0, 0), (0, 0), (0, 0)] [.inr (4, [(-1), (-1), (-1), (-1)]), .inr (4, []), .inr (160, []), .inr (4, [4, 4, 4, 4]), .inr (4, []), .inr (4, []), .inr (30, [])]
  refine KK.aload hx (j := 0) (i := 0) (by decide +kernel) rfl rfl (fun _ _ _ _ _ => ⟨_, rfl⟩) ?_
  refine KK.ic hx (n := 0) (by decide +kernel) ?_
  refine KK.pf hx (idx := 41) (j := 8) (q := (0, 0)) (by decide +kernel) ck4 (by decide) fl_4_41 rfl (fun _ _ _ _ => ⟨rfl, rfl⟩) (by decide) ?_
  show KW X 2 (some 4) 82 [some (1, 0), some (2, 0)] [] [(2, 0), (3, 0), (3, 1), (3, 2), (3, 3), (3, 4), (3, 5), (3, 6), (0, 0), (0, 0), (0, 0), (0, 0)] [.inr (4, [(-1), (-1), (-1), (-1)]), .inr (4, []), .inr (160, []), .inr (4, [4, 4, 4, 4]), .inr (4, []), .inr (4, []), .inr (30, [])]
  refine KK.aload hx (j := 0) (i := 0) (by decide +kernel) rfl rfl (fun _ _ _ _ _ => ⟨_, rfl⟩) ?_
  refine KK.ic hx (n := (-1)) (by decide +kernel) ?_
  refine KK.pf hx (idx := 45) (j := 9) (q := (0, (-1))) (by decide +kernel) ck4 (by decide) fl_4_45 rfl (fun _ _ _ _ => ⟨rfl, rfl⟩) (by decide) ?_
  show KW X 2 (some 4) 87 [some (1, 0), some (2, 0)] [] [(2, 0), (3, 0), (3, 1), (3, 2), (3, 3), (3, 4), (3, 5), (3, 6), (0, 0), (0, (-1)), (0, 0), (0, 0)] [.inr (4, [(-1), (-1), (-1), (-1)]), .inr (4, []), .inr (160, []), .inr (4, [4, 4, 4, 4]), .inr (4, []), .inr (4, []), .inr (30, [])]
  refine KK.aload hx (j := 0) (i := 0) (by decide +kernel) rfl rfl (fun _ _ _ _ _ => ⟨_, rfl⟩) ?_
  refine KK.ic hx (n := 0) (by decide +kernel) ?_
  refine KK.pf hx (idx := 48) (j := 10) (q := (0, 0)) (by decide +kernel) ck4 (by decide) fl_4_48 rfl (fun _ _ _ _ => ⟨rfl, rfl⟩) (by decide) ?_
  show KW X 2 (some 4) 92 [some (1, 0), some (2, 0)] [] [(2, 0), (3, 0), (3, 1), (3, 2), (3, 3), (3, 4), (3, 5), (3, 6), (0, 0), (0, (-1)), (0, 0), (0, 0)] [.inr (4, [(-1), (-1), (-1), (-1)]), .inr (4, []), .inr (160, []), .inr (4, [4, 4, 4, 4]), .inr (4, []), .inr (4, []), .inr (30, [])]
  refine KK.aload hx (j := 0) (i := 0) (by decide +kernel) rfl rfl (fun _ _ _ _ _ => ⟨_, rfl⟩) ?_
  refine KK.ic hx (n := 0) (by decide +kernel) ?_
  refine KK.pf hx (idx := 51) (j := 11) (q := (0, 0)) (by decide +kernel) ck4 (by decide) fl_4_51 rfl (fun _ _ _ _ => ⟨rfl, rfl⟩) (by decide) ?_
  show KW X 2 (some 4) 97 [some (1, 0), some (2, 0)] [] [(2, 0), (3, 0), (3, 1), (3, 2), (3, 3), (3, 4), (3, 5), (3, 6), (0, 0), (0, (-1)), (0, 0), (0, 0)] [.inr (4, [(-1), (-1), (-1), (-1)]), .inr (4, []), .inr (160, []), .inr (4, [4, 4, 4, 4]), .inr (4, []), .inr (4, []), .inr (30, [])]
  exact hret _ _ (by decide +kernel)
