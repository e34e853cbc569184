/-! ===== the model: one part of its data changed (rows laid by lay50.py) ===== -/
theorem xMd_sv {M cmt : Nat} {sv sp pl cm clk com fog : Nat → Nat} {kno : Nat → Nat → Nat} {bit : Nat → Nat} {rd wr : Nat → Nat → Nat} {h h' : xH} {sv' : Nat → Nat} (hm : xMd M cmt sv sp pl cm clk com fog kno bit rd wr h) (hk : ∀ q, M + 2 ≤ q → q ≤ M + 34 → q ≠ M + 6 → q ≠ M + 2 → h' q = h q) (hf : h' (M + 2) = some (.inl (0, 500, .inl (fun w => nI (sv' w))))) : xMd M cmt (sv') sp pl cm clk com fog kno bit rd wr h' := by
  obtain ⟨h0, h1, h2, ⟨f3, h3, e3⟩, ⟨f4, h4, e4⟩, h5, h6, h7, h8, h9, ⟨f10, h10, e10⟩, h11, ⟨f12, h12, e12⟩, h13⟩ := hm
  refine ⟨hf, (hk _ (by omega) (by omega) (by omega) (by omega)).trans h1, (hk _ (by omega) (by omega) (by omega) (by omega)).trans h2, ⟨f3, (hk _ (by omega) (by omega) (by omega) (by omega)).trans h3, e3⟩, ⟨f4, (hk _ (by omega) (by omega) (by omega) (by omega)).trans h4, e4⟩, fun i hi => (hk _ (by omega) (by omega) (by omega) (by omega)).trans (h5 i hi), (hk _ (by omega) (by omega) (by omega) (by omega)).trans h6, (hk _ (by omega) (by omega) (by omega) (by omega)).trans h7, (hk _ (by omega) (by omega) (by omega) (by omega)).trans h8, (hk _ (by omega) (by omega) (by omega) (by omega)).trans h9, ⟨f10, (hk _ (by omega) (by omega) (by omega) (by omega)).trans h10, e10⟩, fun j hj => ?rd, ⟨f12, (hk _ (by omega) (by omega) (by omega) (by omega)).trans h12, e12⟩, fun j hj => ?wr⟩
  case rd =>
    obtain ⟨f, g1, g2⟩ := h11 j hj
    exact ⟨f, (hk _ (by omega) (by omega) (by omega) (by omega)).trans g1, g2⟩
  case wr =>
    obtain ⟨f, g1, g2⟩ := h13 j hj
    exact ⟨f, (hk _ (by omega) (by omega) (by omega) (by omega)).trans g1, g2⟩
theorem xMd_sp {M cmt : Nat} {sv sp pl cm clk com fog : Nat → Nat} {kno : Nat → Nat → Nat} {bit : Nat → Nat} {rd wr : Nat → Nat → Nat} {h h' : xH} {sp' : Nat → Nat} (hm : xMd M cmt sv sp pl cm clk com fog kno bit rd wr h) (hk : ∀ q, M + 2 ≤ q → q ≤ M + 34 → q ≠ M + 6 → q ≠ M + 3 → h' q = h q) (hf : h' (M + 3) = some (.inl (0, 500, .inl (fun w => nI (sp' w))))) : xMd M cmt sv (sp') pl cm clk com fog kno bit rd wr h' := by
  obtain ⟨h0, h1, h2, ⟨f3, h3, e3⟩, ⟨f4, h4, e4⟩, h5, h6, h7, h8, h9, ⟨f10, h10, e10⟩, h11, ⟨f12, h12, e12⟩, h13⟩ := hm
  refine ⟨(hk _ (by omega) (by omega) (by omega) (by omega)).trans h0, hf, (hk _ (by omega) (by omega) (by omega) (by omega)).trans h2, ⟨f3, (hk _ (by omega) (by omega) (by omega) (by omega)).trans h3, e3⟩, ⟨f4, (hk _ (by omega) (by omega) (by omega) (by omega)).trans h4, e4⟩, fun i hi => (hk _ (by omega) (by omega) (by omega) (by omega)).trans (h5 i hi), (hk _ (by omega) (by omega) (by omega) (by omega)).trans h6, (hk _ (by omega) (by omega) (by omega) (by omega)).trans h7, (hk _ (by omega) (by omega) (by omega) (by omega)).trans h8, (hk _ (by omega) (by omega) (by omega) (by omega)).trans h9, ⟨f10, (hk _ (by omega) (by omega) (by omega) (by omega)).trans h10, e10⟩, fun j hj => ?rd, ⟨f12, (hk _ (by omega) (by omega) (by omega) (by omega)).trans h12, e12⟩, fun j hj => ?wr⟩
  case rd =>
    obtain ⟨f, g1, g2⟩ := h11 j hj
    exact ⟨f, (hk _ (by omega) (by omega) (by omega) (by omega)).trans g1, g2⟩
  case wr =>
    obtain ⟨f, g1, g2⟩ := h13 j hj
    exact ⟨f, (hk _ (by omega) (by omega) (by omega) (by omega)).trans g1, g2⟩
theorem xMd_pl {M cmt : Nat} {sv sp pl cm clk com fog : Nat → Nat} {kno : Nat → Nat → Nat} {bit : Nat → Nat} {rd wr : Nat → Nat → Nat} {h h' : xH} {pl' : Nat → Nat} (hm : xMd M cmt sv sp pl cm clk com fog kno bit rd wr h) (hk : ∀ q, M + 2 ≤ q → q ≤ M + 34 → q ≠ M + 6 → q ≠ M + 4 → h' q = h q) (hf : h' (M + 4) = some (.inl (0, 500, .inl (fun w => nI (pl' w))))) : xMd M cmt sv sp (pl') cm clk com fog kno bit rd wr h' := by
  obtain ⟨h0, h1, h2, ⟨f3, h3, e3⟩, ⟨f4, h4, e4⟩, h5, h6, h7, h8, h9, ⟨f10, h10, e10⟩, h11, ⟨f12, h12, e12⟩, h13⟩ := hm
  refine ⟨(hk _ (by omega) (by omega) (by omega) (by omega)).trans h0, (hk _ (by omega) (by omega) (by omega) (by omega)).trans h1, hf, ⟨f3, (hk _ (by omega) (by omega) (by omega) (by omega)).trans h3, e3⟩, ⟨f4, (hk _ (by omega) (by omega) (by omega) (by omega)).trans h4, e4⟩, fun i hi => (hk _ (by omega) (by omega) (by omega) (by omega)).trans (h5 i hi), (hk _ (by omega) (by omega) (by omega) (by omega)).trans h6, (hk _ (by omega) (by omega) (by omega) (by omega)).trans h7, (hk _ (by omega) (by omega) (by omega) (by omega)).trans h8, (hk _ (by omega) (by omega) (by omega) (by omega)).trans h9, ⟨f10, (hk _ (by omega) (by omega) (by omega) (by omega)).trans h10, e10⟩, fun j hj => ?rd, ⟨f12, (hk _ (by omega) (by omega) (by omega) (by omega)).trans h12, e12⟩, fun j hj => ?wr⟩
  case rd =>
    obtain ⟨f, g1, g2⟩ := h11 j hj
    exact ⟨f, (hk _ (by omega) (by omega) (by omega) (by omega)).trans g1, g2⟩
  case wr =>
    obtain ⟨f, g1, g2⟩ := h13 j hj
    exact ⟨f, (hk _ (by omega) (by omega) (by omega) (by omega)).trans g1, g2⟩
theorem xMd_cm {M cmt : Nat} {sv sp pl cm clk com fog : Nat → Nat} {kno : Nat → Nat → Nat} {bit : Nat → Nat} {rd wr : Nat → Nat → Nat} {h h' : xH} {cmt' : Nat} {cm' : Nat → Nat} (hm : xMd M cmt sv sp pl cm clk com fog kno bit rd wr h) (hk : ∀ q, M + 2 ≤ q → q ≤ M + 34 → q ≠ M + 6 → q ≠ M + 5 → h' q = h q) (hf : ∃ f, h' (M + 5) = some (.inl (0, 501, .inl f)) ∧ ∀ r, r < cmt' → f (r + 1) = nI (cm' r)) : xMd M (cmt') sv sp pl (cm') clk com fog kno bit rd wr h' := by
  obtain ⟨h0, h1, h2, ⟨f3, h3, e3⟩, ⟨f4, h4, e4⟩, h5, h6, h7, h8, h9, ⟨f10, h10, e10⟩, h11, ⟨f12, h12, e12⟩, h13⟩ := hm
  refine ⟨(hk _ (by omega) (by omega) (by omega) (by omega)).trans h0, (hk _ (by omega) (by omega) (by omega) (by omega)).trans h1, (hk _ (by omega) (by omega) (by omega) (by omega)).trans h2, hf, ⟨f4, (hk _ (by omega) (by omega) (by omega) (by omega)).trans h4, e4⟩, fun i hi => (hk _ (by omega) (by omega) (by omega) (by omega)).trans (h5 i hi), (hk _ (by omega) (by omega) (by omega) (by omega)).trans h6, (hk _ (by omega) (by omega) (by omega) (by omega)).trans h7, (hk _ (by omega) (by omega) (by omega) (by omega)).trans h8, (hk _ (by omega) (by omega) (by omega) (by omega)).trans h9, ⟨f10, (hk _ (by omega) (by omega) (by omega) (by omega)).trans h10, e10⟩, fun j hj => ?rd, ⟨f12, (hk _ (by omega) (by omega) (by omega) (by omega)).trans h12, e12⟩, fun j hj => ?wr⟩
  case rd =>
    obtain ⟨f, g1, g2⟩ := h11 j hj
    exact ⟨f, (hk _ (by omega) (by omega) (by omega) (by omega)).trans g1, g2⟩
  case wr =>
    obtain ⟨f, g1, g2⟩ := h13 j hj
    exact ⟨f, (hk _ (by omega) (by omega) (by omega) (by omega)).trans g1, g2⟩
theorem xMd_kno {M cmt : Nat} {sv sp pl cm clk com fog : Nat → Nat} {kno : Nat → Nat → Nat} {bit : Nat → Nat} {rd wr : Nat → Nat → Nat} {h h' : xH} {j0 : Nat} {k' : Nat → Nat} (hm : xMd M cmt sv sp pl cm clk com fog kno bit rd wr h) (hk : ∀ q, M + 2 ≤ q → q ≤ M + 34 → q ≠ M + 6 → q ≠ M + 8 + j0 → h' q = h q) (hj0 : j0 < 5) (hf : h' (M + 8 + j0) = some (.inl (1, 500, .inl (fun w => nI (k' w))))) : xMd M cmt sv sp pl cm clk com fog (va_up kno j0 k') bit rd wr h' := by
  obtain ⟨h0, h1, h2, ⟨f3, h3, e3⟩, ⟨f4, h4, e4⟩, h5, h6, h7, h8, h9, ⟨f10, h10, e10⟩, h11, ⟨f12, h12, e12⟩, h13⟩ := hm
  refine ⟨(hk _ (by omega) (by omega) (by omega) (by omega)).trans h0, (hk _ (by omega) (by omega) (by omega) (by omega)).trans h1, (hk _ (by omega) (by omega) (by omega) (by omega)).trans h2, ⟨f3, (hk _ (by omega) (by omega) (by omega) (by omega)).trans h3, e3⟩, ⟨f4, (hk _ (by omega) (by omega) (by omega) (by omega)).trans h4, e4⟩, fun i hi => ?kn, (hk _ (by omega) (by omega) (by omega) (by omega)).trans h6, (hk _ (by omega) (by omega) (by omega) (by omega)).trans h7, (hk _ (by omega) (by omega) (by omega) (by omega)).trans h8, (hk _ (by omega) (by omega) (by omega) (by omega)).trans h9, ⟨f10, (hk _ (by omega) (by omega) (by omega) (by omega)).trans h10, e10⟩, fun j hj => ?rd, ⟨f12, (hk _ (by omega) (by omega) (by omega) (by omega)).trans h12, e12⟩, fun j hj => ?wr⟩
  case kn =>
    by_cases e : i = j0
    · subst e
      rw [vu_at]
      exact hf
    · rw [vu_ne e]
      exact (hk _ (by omega) (by omega) (by omega) (by omega)).trans (h5 i hi)
  case rd =>
    obtain ⟨f, g1, g2⟩ := h11 j hj
    exact ⟨f, (hk _ (by omega) (by omega) (by omega) (by omega)).trans g1, g2⟩
  case wr =>
    obtain ⟨f, g1, g2⟩ := h13 j hj
    exact ⟨f, (hk _ (by omega) (by omega) (by omega) (by omega)).trans g1, g2⟩
theorem xMd_clk {M cmt : Nat} {sv sp pl cm clk com fog : Nat → Nat} {kno : Nat → Nat → Nat} {bit : Nat → Nat} {rd wr : Nat → Nat → Nat} {h h' : xH} {clk' : Nat → Nat} (hm : xMd M cmt sv sp pl cm clk com fog kno bit rd wr h) (hk : ∀ q, M + 2 ≤ q → q ≤ M + 34 → q ≠ M + 6 → q ≠ M + 13 → h' q = h q) (hf : h' (M + 13) = some (.inl (0, 5, .inl (fun w => nI (clk' w))))) : xMd M cmt sv sp pl cm (clk') com fog kno bit rd wr h' := by
  obtain ⟨h0, h1, h2, ⟨f3, h3, e3⟩, ⟨f4, h4, e4⟩, h5, h6, h7, h8, h9, ⟨f10, h10, e10⟩, h11, ⟨f12, h12, e12⟩, h13⟩ := hm
  refine ⟨(hk _ (by omega) (by omega) (by omega) (by omega)).trans h0, (hk _ (by omega) (by omega) (by omega) (by omega)).trans h1, (hk _ (by omega) (by omega) (by omega) (by omega)).trans h2, ⟨f3, (hk _ (by omega) (by omega) (by omega) (by omega)).trans h3, e3⟩, ⟨f4, (hk _ (by omega) (by omega) (by omega) (by omega)).trans h4, e4⟩, fun i hi => (hk _ (by omega) (by omega) (by omega) (by omega)).trans (h5 i hi), hf, (hk _ (by omega) (by omega) (by omega) (by omega)).trans h7, (hk _ (by omega) (by omega) (by omega) (by omega)).trans h8, (hk _ (by omega) (by omega) (by omega) (by omega)).trans h9, ⟨f10, (hk _ (by omega) (by omega) (by omega) (by omega)).trans h10, e10⟩, fun j hj => ?rd, ⟨f12, (hk _ (by omega) (by omega) (by omega) (by omega)).trans h12, e12⟩, fun j hj => ?wr⟩
  case rd =>
    obtain ⟨f, g1, g2⟩ := h11 j hj
    exact ⟨f, (hk _ (by omega) (by omega) (by omega) (by omega)).trans g1, g2⟩
  case wr =>
    obtain ⟨f, g1, g2⟩ := h13 j hj
    exact ⟨f, (hk _ (by omega) (by omega) (by omega) (by omega)).trans g1, g2⟩
theorem xMd_com {M cmt : Nat} {sv sp pl cm clk com fog : Nat → Nat} {kno : Nat → Nat → Nat} {bit : Nat → Nat} {rd wr : Nat → Nat → Nat} {h h' : xH} {com' : Nat → Nat} (hm : xMd M cmt sv sp pl cm clk com fog kno bit rd wr h) (hk : ∀ q, M + 2 ≤ q → q ≤ M + 34 → q ≠ M + 6 → q ≠ M + 14 → h' q = h q) (hf : h' (M + 14) = some (.inl (0, 5, .inl (fun w => nI (com' w))))) : xMd M cmt sv sp pl cm clk (com') fog kno bit rd wr h' := by
  obtain ⟨h0, h1, h2, ⟨f3, h3, e3⟩, ⟨f4, h4, e4⟩, h5, h6, h7, h8, h9, ⟨f10, h10, e10⟩, h11, ⟨f12, h12, e12⟩, h13⟩ := hm
  refine ⟨(hk _ (by omega) (by omega) (by omega) (by omega)).trans h0, (hk _ (by omega) (by omega) (by omega) (by omega)).trans h1, (hk _ (by omega) (by omega) (by omega) (by omega)).trans h2, ⟨f3, (hk _ (by omega) (by omega) (by omega) (by omega)).trans h3, e3⟩, ⟨f4, (hk _ (by omega) (by omega) (by omega) (by omega)).trans h4, e4⟩, fun i hi => (hk _ (by omega) (by omega) (by omega) (by omega)).trans (h5 i hi), (hk _ (by omega) (by omega) (by omega) (by omega)).trans h6, hf, (hk _ (by omega) (by omega) (by omega) (by omega)).trans h8, (hk _ (by omega) (by omega) (by omega) (by omega)).trans h9, ⟨f10, (hk _ (by omega) (by omega) (by omega) (by omega)).trans h10, e10⟩, fun j hj => ?rd, ⟨f12, (hk _ (by omega) (by omega) (by omega) (by omega)).trans h12, e12⟩, fun j hj => ?wr⟩
  case rd =>
    obtain ⟨f, g1, g2⟩ := h11 j hj
    exact ⟨f, (hk _ (by omega) (by omega) (by omega) (by omega)).trans g1, g2⟩
  case wr =>
    obtain ⟨f, g1, g2⟩ := h13 j hj
    exact ⟨f, (hk _ (by omega) (by omega) (by omega) (by omega)).trans g1, g2⟩
theorem xMd_fog {M cmt : Nat} {sv sp pl cm clk com fog : Nat → Nat} {kno : Nat → Nat → Nat} {bit : Nat → Nat} {rd wr : Nat → Nat → Nat} {h h' : xH} {fog' : Nat → Nat} (hm : xMd M cmt sv sp pl cm clk com fog kno bit rd wr h) (hk : ∀ q, M + 2 ≤ q → q ≤ M + 34 → q ≠ M + 6 → q ≠ M + 15 → h' q = h q) (hf : h' (M + 15) = some (.inl (0, 5, .inl (fun w => nI (fog' w))))) : xMd M cmt sv sp pl cm clk com (fog') kno bit rd wr h' := by
  obtain ⟨h0, h1, h2, ⟨f3, h3, e3⟩, ⟨f4, h4, e4⟩, h5, h6, h7, h8, h9, ⟨f10, h10, e10⟩, h11, ⟨f12, h12, e12⟩, h13⟩ := hm
  refine ⟨(hk _ (by omega) (by omega) (by omega) (by omega)).trans h0, (hk _ (by omega) (by omega) (by omega) (by omega)).trans h1, (hk _ (by omega) (by omega) (by omega) (by omega)).trans h2, ⟨f3, (hk _ (by omega) (by omega) (by omega) (by omega)).trans h3, e3⟩, ⟨f4, (hk _ (by omega) (by omega) (by omega) (by omega)).trans h4, e4⟩, fun i hi => (hk _ (by omega) (by omega) (by omega) (by omega)).trans (h5 i hi), (hk _ (by omega) (by omega) (by omega) (by omega)).trans h6, (hk _ (by omega) (by omega) (by omega) (by omega)).trans h7, hf, (hk _ (by omega) (by omega) (by omega) (by omega)).trans h9, ⟨f10, (hk _ (by omega) (by omega) (by omega) (by omega)).trans h10, e10⟩, fun j hj => ?rd, ⟨f12, (hk _ (by omega) (by omega) (by omega) (by omega)).trans h12, e12⟩, fun j hj => ?wr⟩
  case rd =>
    obtain ⟨f, g1, g2⟩ := h11 j hj
    exact ⟨f, (hk _ (by omega) (by omega) (by omega) (by omega)).trans g1, g2⟩
  case wr =>
    obtain ⟨f, g1, g2⟩ := h13 j hj
    exact ⟨f, (hk _ (by omega) (by omega) (by omega) (by omega)).trans g1, g2⟩
theorem xMd_bit {M cmt : Nat} {sv sp pl cm clk com fog : Nat → Nat} {kno : Nat → Nat → Nat} {bit : Nat → Nat} {rd wr : Nat → Nat → Nat} {h h' : xH} {bit' : Nat → Nat} (hm : xMd M cmt sv sp pl cm clk com fog kno bit rd wr h) (hk : ∀ q, M + 2 ≤ q → q ≤ M + 34 → q ≠ M + 6 → q ≠ M + 16 → h' q = h q) (hf : h' (M + 16) = some (.inl (0, 8, .inl (fun w => nI (bit' w))))) : xMd M cmt sv sp pl cm clk com fog kno (bit') rd wr h' := by
  obtain ⟨h0, h1, h2, ⟨f3, h3, e3⟩, ⟨f4, h4, e4⟩, h5, h6, h7, h8, h9, ⟨f10, h10, e10⟩, h11, ⟨f12, h12, e12⟩, h13⟩ := hm
  refine ⟨(hk _ (by omega) (by omega) (by omega) (by omega)).trans h0, (hk _ (by omega) (by omega) (by omega) (by omega)).trans h1, (hk _ (by omega) (by omega) (by omega) (by omega)).trans h2, ⟨f3, (hk _ (by omega) (by omega) (by omega) (by omega)).trans h3, e3⟩, ⟨f4, (hk _ (by omega) (by omega) (by omega) (by omega)).trans h4, e4⟩, fun i hi => (hk _ (by omega) (by omega) (by omega) (by omega)).trans (h5 i hi), (hk _ (by omega) (by omega) (by omega) (by omega)).trans h6, (hk _ (by omega) (by omega) (by omega) (by omega)).trans h7, (hk _ (by omega) (by omega) (by omega) (by omega)).trans h8, hf, ⟨f10, (hk _ (by omega) (by omega) (by omega) (by omega)).trans h10, e10⟩, fun j hj => ?rd, ⟨f12, (hk _ (by omega) (by omega) (by omega) (by omega)).trans h12, e12⟩, fun j hj => ?wr⟩
  case rd =>
    obtain ⟨f, g1, g2⟩ := h11 j hj
    exact ⟨f, (hk _ (by omega) (by omega) (by omega) (by omega)).trans g1, g2⟩
  case wr =>
    obtain ⟨f, g1, g2⟩ := h13 j hj
    exact ⟨f, (hk _ (by omega) (by omega) (by omega) (by omega)).trans g1, g2⟩
theorem xMd_rd {M cmt : Nat} {sv sp pl cm clk com fog : Nat → Nat} {kno : Nat → Nat → Nat} {bit : Nat → Nat} {rd wr : Nat → Nat → Nat} {h h' : xH} {j0 : Nat} {r' : Nat → Nat} (hm : xMd M cmt sv sp pl cm clk com fog kno bit rd wr h) (hk : ∀ q, M + 2 ≤ q → q ≤ M + 34 → q ≠ M + 6 → q ≠ M + 18 + j0 → h' q = h q) (hj0 : j0 < 8) (hf : ∃ f, h' (M + 18 + j0) = some (.inl (0, 5, .inl f)) ∧ ∀ k, k < 5 → f k = nI (r' k)) : xMd M cmt sv sp pl cm clk com fog kno bit (va_up rd j0 r') wr h' := by
  obtain ⟨h0, h1, h2, ⟨f3, h3, e3⟩, ⟨f4, h4, e4⟩, h5, h6, h7, h8, h9, ⟨f10, h10, e10⟩, h11, ⟨f12, h12, e12⟩, h13⟩ := hm
  refine ⟨(hk _ (by omega) (by omega) (by omega) (by omega)).trans h0, (hk _ (by omega) (by omega) (by omega) (by omega)).trans h1, (hk _ (by omega) (by omega) (by omega) (by omega)).trans h2, ⟨f3, (hk _ (by omega) (by omega) (by omega) (by omega)).trans h3, e3⟩, ⟨f4, (hk _ (by omega) (by omega) (by omega) (by omega)).trans h4, e4⟩, fun i hi => (hk _ (by omega) (by omega) (by omega) (by omega)).trans (h5 i hi), (hk _ (by omega) (by omega) (by omega) (by omega)).trans h6, (hk _ (by omega) (by omega) (by omega) (by omega)).trans h7, (hk _ (by omega) (by omega) (by omega) (by omega)).trans h8, (hk _ (by omega) (by omega) (by omega) (by omega)).trans h9, ⟨f10, (hk _ (by omega) (by omega) (by omega) (by omega)).trans h10, e10⟩, fun j hj => ?rd, ⟨f12, (hk _ (by omega) (by omega) (by omega) (by omega)).trans h12, e12⟩, fun j hj => ?wr⟩
  case rd =>
    by_cases e : j = j0
    · subst e
      rw [vu_at]
      exact hf
    · rw [vu_ne e]
      obtain ⟨f, g1, g2⟩ := h11 j hj
      exact ⟨f, (hk _ (by omega) (by omega) (by omega) (by omega)).trans g1, g2⟩
  case wr =>
    obtain ⟨f, g1, g2⟩ := h13 j hj
    exact ⟨f, (hk _ (by omega) (by omega) (by omega) (by omega)).trans g1, g2⟩
theorem xMd_wr {M cmt : Nat} {sv sp pl cm clk com fog : Nat → Nat} {kno : Nat → Nat → Nat} {bit : Nat → Nat} {rd wr : Nat → Nat → Nat} {h h' : xH} {j0 : Nat} {r' : Nat → Nat} (hm : xMd M cmt sv sp pl cm clk com fog kno bit rd wr h) (hk : ∀ q, M + 2 ≤ q → q ≤ M + 34 → q ≠ M + 6 → q ≠ M + 27 + j0 → h' q = h q) (hj0 : j0 < 8) (hf : ∃ f, h' (M + 27 + j0) = some (.inl (0, 5, .inl f)) ∧ ∀ k, k < 5 → f k = nI (r' k)) : xMd M cmt sv sp pl cm clk com fog kno bit rd (va_up wr j0 r') h' := by
  obtain ⟨h0, h1, h2, ⟨f3, h3, e3⟩, ⟨f4, h4, e4⟩, h5, h6, h7, h8, h9, ⟨f10, h10, e10⟩, h11, ⟨f12, h12, e12⟩, h13⟩ := hm
  refine ⟨(hk _ (by omega) (by omega) (by omega) (by omega)).trans h0, (hk _ (by omega) (by omega) (by omega) (by omega)).trans h1, (hk _ (by omega) (by omega) (by omega) (by omega)).trans h2, ⟨f3, (hk _ (by omega) (by omega) (by omega) (by omega)).trans h3, e3⟩, ⟨f4, (hk _ (by omega) (by omega) (by omega) (by omega)).trans h4, e4⟩, fun i hi => (hk _ (by omega) (by omega) (by omega) (by omega)).trans (h5 i hi), (hk _ (by omega) (by omega) (by omega) (by omega)).trans h6, (hk _ (by omega) (by omega) (by omega) (by omega)).trans h7, (hk _ (by omega) (by omega) (by omega) (by omega)).trans h8, (hk _ (by omega) (by omega) (by omega) (by omega)).trans h9, ⟨f10, (hk _ (by omega) (by omega) (by omega) (by omega)).trans h10, e10⟩, fun j hj => ?rd, ⟨f12, (hk _ (by omega) (by omega) (by omega) (by omega)).trans h12, e12⟩, fun j hj => ?wr⟩
  case rd =>
    obtain ⟨f, g1, g2⟩ := h11 j hj
    exact ⟨f, (hk _ (by omega) (by omega) (by omega) (by omega)).trans g1, g2⟩
  case wr =>
    by_cases e : j = j0
    · subst e
      rw [vu_at]
      exact hf
    · rw [vu_ne e]
      obtain ⟨f, g1, g2⟩ := h13 j hj
      exact ⟨f, (hk _ (by omega) (by omega) (by omega) (by omega)).trans g1, g2⟩
