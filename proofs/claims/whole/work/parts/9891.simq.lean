/-! a step for each question -/
theorem s_hit {n : Nat} (hn : 25000 ≤ n) (lo : Nat) : lw_s_hit n lo (lo + 2875) (SimP lo) := by
  intro t M ht h x1 x2
  obtain ⟨tp, T, wd, ps, im, sc, rf, m, f, hM, hC, hm, hI, ho⟩ := h
  obtain ⟨x, rfl, hx⟩ := i32 x1
  obtain ⟨y, rfl, hy⟩ := i32 x2
  exact sim_g (fun Z => pX10_hit n Z (lo + 2875) (iI x) (iI y)) ht hM ho (k_hit (by omega) hC hI hx hy) (by omega) (fun M0 => by
    obtain ⟨m', e, g⟩ := m_hit (n := n) (M := M0) (am := lo + 2875) (by omega) hm.2.1 hx hy
    exact ⟨m', e, hm.sk g.k⟩) hI
theorem s_rank {n : Nat} (hn : 25000 ≤ n) (lo : Nat) : lw_s_rank n lo (lo + 2875) (SimP lo) := by
  intro t M ht h x1 x2
  obtain ⟨tp, T, wd, ps, im, sc, rf, m, f, hM, hC, hm, hI, ho⟩ := h
  obtain ⟨x, rfl, hx⟩ := i32 x1
  obtain ⟨y, rfl, hy⟩ := i32 x2
  exact sim_g (fun Z => pX10_rank n Z (lo + 2875) (iI x) (iI y)) ht hM ho (k_rank (by omega) hC hI hx hy) (by omega) (fun M0 => by
    obtain ⟨m', e, g⟩ := m_rank (n := n) (M := M0) (am := lo + 2875) (by omega) hm.2.1 hx hy
    exact ⟨m', e, hm.sk g.k⟩) hI
theorem s_all {n : Nat} (hn : 25000 ≤ n) (lo : Nat) : lw_s_all n lo (lo + 2875) (SimP lo) := by
  intro t M ht h x1 x2
  obtain ⟨tp, T, wd, ps, im, sc, rf, m, f, hM, hC, hm, hI, ho⟩ := h
  obtain ⟨x, rfl, hx⟩ := i32 x1
  obtain ⟨y, rfl, hy⟩ := i32 x2
  exact sim_g (fun Z => pX10_all n Z (lo + 2875) (iI x) (iI y)) ht hM ho (k_all (by omega) hC hI hx hy) (by omega) (fun M0 => by
    obtain ⟨m', e, g⟩ := m_allq (n := n) (M := M0) (am := lo + 2875) (by omega) hm.2.1 hx hy
    exact ⟨m', e, hm.sk g.k⟩) hI
theorem s_twice {n : Nat} (hn : 25000 ≤ n) (lo : Nat) : lw_s_twice n lo (lo + 2875) (SimP lo) := by
  intro t M ht h x1
  obtain ⟨tp, T, wd, ps, im, sc, rf, m, f, hM, hC, hm, hI, ho⟩ := h
  obtain ⟨x, rfl, hx⟩ := i32 x1
  exact sim_g (fun Z => pX10_twice n Z (lo + 2875) (iI x)) ht hM ho (k_twice (by omega) hC hI hx) (by omega) (fun M0 => by
    obtain ⟨m', e, g⟩ := m_twice (n := n) (M := M0) (am := lo + 2875) (by omega) hm.2.1 hx
    exact ⟨m', e, hm.sk g.k⟩) hI
theorem s_unlike {n : Nat} (hn : 25000 ≤ n) (lo : Nat) : lw_s_unlike n lo (lo + 2875) (SimP lo) := by
  intro t M ht h x1
  obtain ⟨tp, T, wd, ps, im, sc, rf, m, f, hM, hC, hm, hI, ho⟩ := h
  obtain ⟨x, rfl, hx⟩ := i32 x1
  exact sim_g (fun Z => pX10_unlike n Z (lo + 2875) (iI x)) ht hM ho (k_unlike (by omega) hC hI hx) (by omega) (fun M0 => by
    obtain ⟨m', e, g⟩ := m_unlike (n := n) (M := M0) (am := lo + 2875) (by omega) hm.2.1 hx
    exact ⟨m', e, hm.sk g.k⟩) hI
theorem s_frequent {n : Nat} (hn : 25000 ≤ n) (lo : Nat) : lw_s_frequent n lo (lo + 2875) (SimP lo) := by
  intro t M ht h x1 x2
  obtain ⟨tp, T, wd, ps, im, sc, rf, m, f, hM, hC, hm, hI, ho⟩ := h
  obtain ⟨x, rfl, hx⟩ := i32 x1
  obtain ⟨y, rfl, hy⟩ := i32 x2
  exact sim_g (fun Z => pX10_frequent n Z (lo + 2875) (iI x) (iI y)) ht hM ho (k_frequent (by omega) hC hI hx hy) (by omega) (fun M0 => by
    obtain ⟨m', e, g⟩ := m_freq (n := n) (M := M0) (am := lo + 2875) (by omega) hm.2.1 hx hy
    exact ⟨m', e, hm.sk g.k⟩) hI
theorem s_spell {n : Nat} (hn : 25000 ≤ n) (lo : Nat) : lw_s_spell n lo (lo + 2875) (SimP lo) := by
  intro t M ht h x1 x2
  obtain ⟨tp, T, wd, ps, im, sc, rf, m, f, hM, hC, hm, hI, ho⟩ := h
  obtain ⟨x, rfl, hx⟩ := i32 x1
  obtain ⟨y, rfl, hy⟩ := i32 x2
  exact sim_g (fun Z => pX10_spell n Z (lo + 2875) (iI x) (iI y)) ht hM ho (k_spell (by omega) hC hI hx hy) (by omega) (fun M0 => by
    obtain ⟨m', e, g⟩ := m_spell (n := n) (M := M0) (am := lo + 2875) (by omega) hm.2.1 hx hy
    exact ⟨m', e, hm.sk g.k⟩) hI
theorem s_most {n : Nat} (hn : 25000 ≤ n) (lo : Nat) : lw_s_most n lo (lo + 2875) (SimP lo) := by
  intro t M ht h x1
  obtain ⟨tp, T, wd, ps, im, sc, rf, m, f, hM, hC, hm, hI, ho⟩ := h
  obtain ⟨x, rfl, hx⟩ := i32 x1
  exact sim_g (fun Z => pX10_most n Z (lo + 2875) (iI x)) ht hM ho (k_most (by omega) hC hI hx) (by omega) (fun M0 => by
    obtain ⟨m', e, g⟩ := m_most (n := n) (M := M0) (am := lo + 2875) (by omega) hm.2.1 hx
    exact ⟨m', e, hm.sk g.k⟩) hI
theorem s_few {n : Nat} (hn : 25000 ≤ n) (lo : Nat) : lw_s_few n lo (lo + 2875) (SimP lo) := by
  intro t M ht h x1 x2
  obtain ⟨tp, T, wd, ps, im, sc, rf, m, f, hM, hC, hm, hI, ho⟩ := h
  obtain ⟨x, rfl, hx⟩ := i32 x1
  obtain ⟨y, rfl, hy⟩ := i32 x2
  exact sim_g (fun Z => pX10_few n Z (lo + 2875) (iI x) (iI y)) ht hM ho (k_few (by omega) hC hI hx hy) (by omega) (fun M0 => ⟨m, m_few (by omega) hm.2.1.1 hm.2.1.2.1 hx hy, hm⟩) hI
theorem s_beside {n : Nat} (hn : 25000 ≤ n) (lo : Nat) : lw_s_beside n lo (lo + 2875) (SimP lo) := by
  intro t M ht h x1 x2 h01
  obtain ⟨tp, T, wd, ps, im, sc, rf, m, f, hM, hC, hm, hI, ho⟩ := h
  obtain ⟨y, rfl, hy⟩ := i32 x2
  obtain ⟨b, rfl⟩ : ∃ b : Bool, x1 = bI b := by
    rcases h01 with rfl | rfl
    · exact ⟨false, by decide⟩
    · exact ⟨true, by decide⟩
  exact sim_g (fun Z => pX10_beside n Z (lo + 2875) (bI b) (iI y)) ht hM ho (k_beside (by omega) hC hI hy) (by omega) (fun M0 => by
    obtain ⟨m', e, g⟩ := m_beside (n := n) (M := M0) (am := lo + 2875) (by omega) hm.2.1 hy
    exact ⟨m', e, hm.sk g.k⟩) hI
theorem s_rule {n : Nat} (hn : 25000 ≤ n) (lo : Nat) : lw_s_rule n lo (lo + 2875) (SimP lo) := by
  intro t M ht h x1
  obtain ⟨tp, T, wd, ps, im, sc, rf, m, f, hM, hC, hm, hI, ho⟩ := h
  obtain ⟨x, rfl, hx⟩ := i32 x1
  exact sim_g (fun Z => pX10_rule n Z (lo + 2875) (iI x)) ht hM ho (k_rule (by omega) hC hI hx) (by omega) (fun M0 => by
    obtain ⟨m', e, g⟩ := (q_rule hn hm.2.1 hx : Qy n _ m _) M0 (lo + 2875)
    exact ⟨m', e, hm.sk g⟩) hI
theorem s_sign {n : Nat} (hn : 25000 ≤ n) (lo : Nat) : lw_s_sign n lo (lo + 2875) (SimP lo) := by
  intro t M ht h x1 x2
  obtain ⟨tp, T, wd, ps, im, sc, rf, m, f, hM, hC, hm, hI, ho⟩ := h
  obtain ⟨x, rfl, hx⟩ := i32 x1
  obtain ⟨y, rfl, hy⟩ := i32 x2
  exact sim_g (fun Z => pX10_sign n Z (lo + 2875) (iI x) (iI y)) ht hM ho (⟨M, k_sign (by omega) hC hx hy, hC, fr.rfl⟩) (by omega) (fun M0 => by
    obtain ⟨m', e, g⟩ := (q_sign hm.2.1 hx hy : Qy n _ m _) M0 (lo + 2875)
    exact ⟨m', e, hm.sk g⟩) hI
theorem s_cursor {n : Nat} (hn : 25000 ≤ n) (lo : Nat) : lw_s_cursor n lo (lo + 2875) (SimP lo) := by
  intro t M ht h x1 x2
  obtain ⟨tp, T, wd, ps, im, sc, rf, m, f, hM, hC, hm, hI, ho⟩ := h
  obtain ⟨x, rfl, hx⟩ := i32 x1
  obtain ⟨y, rfl, hy⟩ := i32 x2
  exact sim_g (fun Z => pX10_cursor n Z (lo + 2875) (iI x) (iI y)) ht hM ho (⟨M, k_cursor (by omega) hC hx hy, hC, fr.rfl⟩) (by omega) (fun M0 => by
    obtain ⟨m', e, g⟩ := (q_cur hn hm.2.1 hx hy : Qy n _ m _) M0 (lo + 2875)
    exact ⟨m', e, hm.sk g⟩) hI
theorem s_told {n : Nat} (hn : 25000 ≤ n) (lo : Nat) : lw_s_told n lo (lo + 2875) (SimP lo) := by
  intro t M ht h x1 x2 x3
  obtain ⟨tp, T, wd, ps, im, sc, rf, m, f, hM, hC, hm, hI, ho⟩ := h
  obtain ⟨x, rfl, hx⟩ := i32 x1
  obtain ⟨y, rfl, hy⟩ := i32 x2
  obtain ⟨z, rfl, hz⟩ := i32 x3
  exact sim_g (fun Z => pX10_told n Z (lo + 2875) (iI x) (iI y) (iI z)) ht hM ho (⟨M, k_told hC hx hy hz, hC, fr.rfl⟩) (by omega) (fun M0 => by
    obtain ⟨m', e, g⟩ := (q_told hm.2.1 hx hy hz : Qy n _ m _) M0 (lo + 2875)
    exact ⟨m', e, hm.sk g⟩) hI
theorem s_log {n : Nat} (hn : 25000 ≤ n) (lo : Nat) : lw_s_log n lo (lo + 2875) (SimP lo) := by
  intro t M ht h x1 x2
  obtain ⟨tp, T, wd, ps, im, sc, rf, m, f, hM, hC, hm, hI, ho⟩ := h
  obtain ⟨x, rfl, hx⟩ := i32 x1
  obtain ⟨y, rfl, hy⟩ := i32 x2
  exact sim_g (fun Z => pX10_log n Z (lo + 2875) (iI x) (iI y)) ht hM ho (⟨M, k_log hC hx hy, hC, fr.rfl⟩) (by omega) (fun M0 => by
    obtain ⟨m', e, g⟩ := (q_log hm.2.1 hx hy : Qy n _ m _) M0 (lo + 2875)
    exact ⟨m', e, hm.sk g⟩) hI
theorem s_count {n : Nat} (hn : 25000 ≤ n) (lo : Nat) : lw_s_count n lo (lo + 2875) (SimP lo) := by
  intro t M ht h x1
  obtain ⟨tp, T, wd, ps, im, sc, rf, m, f, hM, hC, hm, hI, ho⟩ := h
  obtain ⟨x, rfl, hx⟩ := i32 x1
  exact sim_g (fun Z => pX10_count n Z (lo + 2875) (iI x)) ht hM ho (⟨M, k_count hC hx, hC, fr.rfl⟩) (by omega) (fun M0 => by
    obtain ⟨m', e, g⟩ := (q_count hm hx : Qy n _ m _) M0 (lo + 2875)
    exact ⟨m', e, hm.sk g⟩) hI
theorem s_status {n : Nat} (hn : 25000 ≤ n) (lo : Nat) : lw_s_status n lo (lo + 2875) (SimP lo) := by
  intro t M ht h x1
  obtain ⟨tp, T, wd, ps, im, sc, rf, m, f, hM, hC, hm, hI, ho⟩ := h
  obtain ⟨x, rfl, hx⟩ := i32 x1
  exact sim_g (fun Z => pX10_status n Z (lo + 2875) (iI x)) ht hM ho (⟨M, k_status hC hx, hC, fr.rfl⟩) (by omega) (fun M0 => by
    obtain ⟨m', e, g⟩ := (q_status hm hx : Qy n _ m _) M0 (lo + 2875)
    exact ⟨m', e, hm.sk g⟩) hI
theorem s_step {n : Nat} (hn : 25000 ≤ n) (lo : Nat) : lw_s_step n lo (lo + 2875) (SimP lo) := by
  intro t M ht h x1 x2 x3
  obtain ⟨tp, T, wd, ps, im, sc, rf, m, f, hM, hC, hm, hI, ho⟩ := h
  obtain ⟨x, rfl, hx⟩ := i32 x1
  obtain ⟨y, rfl, hy⟩ := i32 x2
  obtain ⟨z, rfl, hz⟩ := i32 x3
  exact sim_g (fun Z => pX10_step n Z (lo + 2875) (iI x) (iI y) (iI z)) ht hM ho (⟨M, k_step hC hx hy hz, hC, fr.rfl⟩) (by omega) (fun M0 => by
    obtain ⟨m', e, g⟩ := (q_step hm hx hy hz : Qy n _ m _) M0 (lo + 2875)
    exact ⟨m', e, hm.sk g⟩) hI
theorem s_would {n : Nat} (hn : 25000 ≤ n) (lo : Nat) : lw_s_would n lo (lo + 2875) (SimP lo) := by
  intro t M ht h x1
  obtain ⟨tp, T, wd, ps, im, sc, rf, m, f, hM, hC, hm, hI, ho⟩ := h
  obtain ⟨x, rfl, hx⟩ := i32 x1
  exact sim_g (fun Z => pX10_would n Z (lo + 2875) (iI x)) ht hM ho (k_would (by omega) hC hI hx) (by omega) (fun M0 => m_would hn hm hx M0 (lo + 2875)) hI
theorem s_feed {n : Nat} (hn : 25000 ≤ n) (lo : Nat) : lw_s_feed n lo (lo + 2875) (SimP lo) := by
  intro t M ht h x1 x2 x3 x4 x5
  obtain ⟨tp, T, wd, ps, im, sc, rf, m, f, hM, hC, hm, hI, ho⟩ := h
  exact sim_g (fun Z => pX10_feed n Z (lo + 2875) x1 x2 x3 x4 x5) ht hM ho (k_feed (by omega) hC x1 x2 x3 x4 x5) (by omega) (fun M0 => by
    obtain ⟨m', e, g1, g2, g3, g4⟩ := m_feed (n := n) (by omega) hm.1 x1 x2 x3 x4 x5 M0 (lo + 2875)
    exact ⟨m', e, hm.tp g1 (fun j q => g3 j (by omega) (by omega)) (fun x q => g4 x (by omega))⟩) hI
theorem s_end {n : Nat} (hn : 25000 ≤ n) (lo : Nat) : lw_s_end n lo (lo + 2875) (SimP lo) := by
  intro t M ht h x1
  obtain ⟨tp, T, wd, ps, im, sc, rf, m, f, hM, hC, hm, hI, ho⟩ := h
  obtain ⟨x, rfl, hx⟩ := i32 x1
  exact sim_g (fun Z => pX10_end n Z (lo + 2875) (iI x)) ht hM ho (k_end hC hx) (by omega) (fun M0 => by
    obtain ⟨m', e, g1, g3, g4⟩ := m_end (n := n) hm.1 hx M0 (lo + 2875)
    exact ⟨m', e, hm.tp g1 (fun j q => g3 j (by omega)) (fun x q => g4 x (by omega))⟩) hI
theorem s_fault {n : Nat} (hn : 25000 ≤ n) (lo : Nat) : lw_s_fault n lo (lo + 2875) (SimP lo) := by
  intro t M ht h x1
  obtain ⟨tp, T, wd, ps, im, sc, rf, m, f, hM, hC, hm, hI, ho⟩ := h
  obtain ⟨x, rfl, hx⟩ := i32 x1
  exact sim_g (fun Z => pX10_fault n Z (lo + 2875) (iI x)) ht hM ho (k_fault (by omega) hC (by omega) hx) (by omega) (fun M0 => m_fault (by omega) hm hI hx M0 (lo + 2875)) hI
