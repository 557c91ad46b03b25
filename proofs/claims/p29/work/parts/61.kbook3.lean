/-! the class books, walked -/
set_option maxRecDepth 20000 in
set_option maxHeartbeats 800000 in
theorem k_book5T {d b : Nat} {K : KM} {I : IM} {R : RM} {Q : QT} {n : Nat} {σ : ST} {x t f s : Nat} {pb : Prop} {mi ti : Int32}  (hd : 8 ≤ d) (hW : CW n σ K I R) (hx : x < 1000) (ht : t < 4) (hf : f < 10) (hs : s < 10) (h6 : mn σ x < 6) (q0 : ∀ K' I' R', CSX K' R' → FrKR K K' R R' → FrC I I' → RC (bkS σ x t f s pb mi ti) I' R' → Q (.inl (some (pI (nI (mn σ x))))) K' I' R') : Mw d (b + 61) N_X5_book 113 [some (pR (some RING)), some (pI (nI x)), some (pI (nI t)), some (pI (nI f)), some (pI (nI s)), some (pI (bI pb)), some (pI mi), some (pI ti), some (pR (some (CA (cix R x)))), some (pI (nI f)), some (pI (nI s)), none] [] K I R Q := by
  obtain ⟨d9, rfl⟩ : ∃ d9, d = d9 + 1 := ⟨d - 1, by omega⟩
  have hS := hW.1.1
  have hR := hW.2.1
  have hV := hW.2.2
  have hpp := hW.2.2.1.2
  have htt := hW.2.2.2.1.2
  have hdd := hW.2.2.2.2.1.2
  refine mw_aload i_37_113 (L := RING) rfl ?_
  refine mw_iload i_37_114 (x := nI x) rfl ?_
  refine mw_callV i_37_115 mf_64 (as := [pI (nI x)]) (rest := []) (d' := d9) (b' := b + 7) (ls0 := [some (pR (some RING)), some (pI (nI x))]) rfl rfl rfl (Nat.le_of_ble_eq_true rfl) hS.1.1 rfl (by omega) rfl ?_
  refine k_ctb (b := 0) (by omega) hW hx ?_
  intro K' I' R' hS' hr' hF hFK hy'
  have hC' : CO K' R' x := by
    rcases hS'.2.2 x hx with ⟨h, -⟩ | ⟨-, h⟩
    · rw [hy'] at h; cases h
    · exact h
  have hz' : I' (CA x) 2 = nI (mn σ x) := by
    rcases hr'.2.2.2.2.2 x hx with ⟨h, -⟩ | ⟨-, h, -⟩
    · rw [hy'] at h; cases h
    · exact h.trans (hV.2.2.2.2.2.1 x hx).1
  refine aft_v ?_
  refine mw_astore i_37_116 (ls' := [some (pR (some RING)), some (pI (nI x)), some (pI (nI t)), some (pI (nI f)), some (pI (nI s)), some (pI (bI pb)), some (pI mi), some (pI ti), some (pR (some (CA (cix R x)))), some (pI (nI f)), some (pI (nI s)), some (pR (some (CA x)))]) rfl (Nat.le_of_ble_eq_true rfl) ?_
  refine mw_aload i_37_117 (L := CA x) rfl ?_
  refine mw_iload i_37_118 (x := nI t) rfl ?_
  refine mw_put i_37_119 (x := nI t) hC'.1 (I' := up2 I' (CA x) 1 (nI t)) rfl ?_
  refine mw_aload i_37_120 (L := CA x) rfl ?_
  refine mw_dup i_37_121 trivial ?_
  refine mw_get i_37_122 hC'.1 (v := nI (mn σ x)) (by rw [up2_slot (by decide)]; exact hz') ?_
  refine mw_const i_37_123 (v := nI 1) (by decide) ?_
  refine mw_iadd i_37_124 (w := nI (mn σ x + 1)) (nI_add _ _) ?_
  refine mw_put i_37_125 (x := nI (mn σ x + 1)) hC'.1 (I' := up2 (up2 I' (CA x) 1 (nI t)) (CA x) 2 (nI (mn σ x + 1))) rfl ?_
  refine mw_aload i_37_126 (L := CA x) rfl ?_
  refine mw_getR i_37_127 hC'.1 (q := some (MM x)) hC'.2.1 ?_
  refine mw_aload i_37_128 (L := CA x) rfl ?_
  refine mw_get i_37_129 hC'.1 (v := nI (mn σ x + 1)) (by rw [up2_at, upd_at]) ?_
  refine mw_const i_37_130 (v := nI 1) (by decide) ?_
  refine mw_isub i_37_131 (w := nI (mn σ x)) sub1 ?_
  refine mw_aald i_37_132 (jn := mn σ x) (n := 6) (by omega) (by omega) hC'.2.2.1 (by decide) (q := some (MT x (pm R' x (mn σ x)))) (hC'.2.2.2.2.1 (mn σ x) (by omega)).2 ?_
  refine mw_iload i_37_133 (x := nI f) rfl ?_
  refine mw_iload i_37_134 (x := nI s) rfl ?_
  refine mw_iload i_37_135 (x := bI pb) rfl ?_
  refine mw_iload i_37_136 (x := mi) rfl ?_
  refine mw_iload i_37_137 (x := ti) rfl ?_
  refine mw_callV i_37_138 mf_9 (as := [pI (nI f), pI (nI s), pI (bI pb), pI mi, pI ti]) (rest := []) (d' := d9) (b' := b + 7) (ls0 := [some (pR (some (MT x (pm R' x (mn σ x))))), some (pI (nI f)), some (pI (nI s)), some (pI (bI pb)), some (pI mi), some (pI ti)]) rfl rfl rfl (Nat.le_of_ble_eq_true rfl) (hC'.2.2.2.1 _ (hC'.2.2.2.2.1 (mn σ x) (by omega)).1) rfl rfl rfl ?_
  refine k_become (hC'.2.2.2.1 _ (hC'.2.2.2.2.1 (mn σ x) (by omega)).1) ?_
  refine aft_n ?_
  refine mw_aload i_37_139 (L := CA x) rfl ?_
  refine mw_get i_37_140 hC'.1 (v := nI (mn σ x + 1)) (by rw [up2_ne (by simp), up2_ne (by simp), up2_ne (by simp), up2_ne (by simp), up2_ne (by simp), up2_ne (by simp), up2_at, upd_at]) ?_
  refine mw_const i_37_141 (v := nI 1) (by decide) ?_
  refine mw_isub i_37_142 (w := nI (mn σ x)) sub1 ?_
  refine mw_iretI i_37_143 (x := nI (mn σ x)) rt_37 ?_
  exact q0 _ _ _ hS' hFK (FrC_up (FrC_up (FrC_up (FrC_up (FrC_up (FrC_up (FrC_up (FrC_up (hF) (Nat.le_of_ble_eq_true rfl)) (Nat.le_of_ble_eq_true rfl)) (Nat.le_of_ble_eq_true rfl)) (Nat.le_of_ble_eq_true rfl)) (Nat.le_of_ble_eq_true rfl)) (Nat.le_of_ble_eq_true rfl)) (Nat.le_of_ble_eq_true rfl)) (Nat.le_of_ble_eq_true rfl)) (RC_book hr' hx hC' hy' h6 (fun d hd => (hV.2.2.2.2.2.1 d hd).2.1))
set_option maxRecDepth 20000 in
set_option maxHeartbeats 800000 in
theorem k_book5F {d b : Nat} {K : KM} {I : IM} {R : RM} {Q : QT} {n : Nat} {σ : ST} {x t f s : Nat} {pb : Prop} {mi ti : Int32}  (hd : 8 ≤ d) (hW : CW n σ K I R) (hx : x < 1000) (ht : t < 4) (hf : f < 10) (hs : s < 10) (h6 : mn σ x < 6) (q0 : ∀ K' I' R', CSX K' R' → FrKR K K' R R' → FrC I I' → RC (bkS σ x t f s pb mi ti) I' R' → Q (.inl (some (pI (nI (mn σ x))))) K' I' R') : Mw d (b + 61) N_X5_book 113 [some (pR (some RING)), some (pI (nI x)), some (pI (nI t)), some (pI (nI f)), some (pI (nI s)), some (pI (bI pb)), some (pI mi), some (pI ti), some (pR (some (CA (cix R x)))), some (pI (nI s)), some (pI (nI f)), none] [] K I R Q := by
  obtain ⟨d9, rfl⟩ : ∃ d9, d = d9 + 1 := ⟨d - 1, by omega⟩
  have hS := hW.1.1
  have hR := hW.2.1
  have hV := hW.2.2
  have hpp := hW.2.2.1.2
  have htt := hW.2.2.2.1.2
  have hdd := hW.2.2.2.2.1.2
  refine mw_aload i_37_113 (L := RING) rfl ?_
  refine mw_iload i_37_114 (x := nI x) rfl ?_
  refine mw_callV i_37_115 mf_64 (as := [pI (nI x)]) (rest := []) (d' := d9) (b' := b + 7) (ls0 := [some (pR (some RING)), some (pI (nI x))]) rfl rfl rfl (Nat.le_of_ble_eq_true rfl) hS.1.1 rfl (by omega) rfl ?_
  refine k_ctb (b := 0) (by omega) hW hx ?_
  intro K' I' R' hS' hr' hF hFK hy'
  have hC' : CO K' R' x := by
    rcases hS'.2.2 x hx with ⟨h, -⟩ | ⟨-, h⟩
    · rw [hy'] at h; cases h
    · exact h
  have hz' : I' (CA x) 2 = nI (mn σ x) := by
    rcases hr'.2.2.2.2.2 x hx with ⟨h, -⟩ | ⟨-, h, -⟩
    · rw [hy'] at h; cases h
    · exact h.trans (hV.2.2.2.2.2.1 x hx).1
  refine aft_v ?_
  refine mw_astore i_37_116 (ls' := [some (pR (some RING)), some (pI (nI x)), some (pI (nI t)), some (pI (nI f)), some (pI (nI s)), some (pI (bI pb)), some (pI mi), some (pI ti), some (pR (some (CA (cix R x)))), some (pI (nI s)), some (pI (nI f)), some (pR (some (CA x)))]) rfl (Nat.le_of_ble_eq_true rfl) ?_
  refine mw_aload i_37_117 (L := CA x) rfl ?_
  refine mw_iload i_37_118 (x := nI t) rfl ?_
  refine mw_put i_37_119 (x := nI t) hC'.1 (I' := up2 I' (CA x) 1 (nI t)) rfl ?_
  refine mw_aload i_37_120 (L := CA x) rfl ?_
  refine mw_dup i_37_121 trivial ?_
  refine mw_get i_37_122 hC'.1 (v := nI (mn σ x)) (by rw [up2_slot (by decide)]; exact hz') ?_
  refine mw_const i_37_123 (v := nI 1) (by decide) ?_
  refine mw_iadd i_37_124 (w := nI (mn σ x + 1)) (nI_add _ _) ?_
  refine mw_put i_37_125 (x := nI (mn σ x + 1)) hC'.1 (I' := up2 (up2 I' (CA x) 1 (nI t)) (CA x) 2 (nI (mn σ x + 1))) rfl ?_
  refine mw_aload i_37_126 (L := CA x) rfl ?_
  refine mw_getR i_37_127 hC'.1 (q := some (MM x)) hC'.2.1 ?_
  refine mw_aload i_37_128 (L := CA x) rfl ?_
  refine mw_get i_37_129 hC'.1 (v := nI (mn σ x + 1)) (by rw [up2_at, upd_at]) ?_
  refine mw_const i_37_130 (v := nI 1) (by decide) ?_
  refine mw_isub i_37_131 (w := nI (mn σ x)) sub1 ?_
  refine mw_aald i_37_132 (jn := mn σ x) (n := 6) (by omega) (by omega) hC'.2.2.1 (by decide) (q := some (MT x (pm R' x (mn σ x)))) (hC'.2.2.2.2.1 (mn σ x) (by omega)).2 ?_
  refine mw_iload i_37_133 (x := nI f) rfl ?_
  refine mw_iload i_37_134 (x := nI s) rfl ?_
  refine mw_iload i_37_135 (x := bI pb) rfl ?_
  refine mw_iload i_37_136 (x := mi) rfl ?_
  refine mw_iload i_37_137 (x := ti) rfl ?_
  refine mw_callV i_37_138 mf_9 (as := [pI (nI f), pI (nI s), pI (bI pb), pI mi, pI ti]) (rest := []) (d' := d9) (b' := b + 7) (ls0 := [some (pR (some (MT x (pm R' x (mn σ x))))), some (pI (nI f)), some (pI (nI s)), some (pI (bI pb)), some (pI mi), some (pI ti)]) rfl rfl rfl (Nat.le_of_ble_eq_true rfl) (hC'.2.2.2.1 _ (hC'.2.2.2.2.1 (mn σ x) (by omega)).1) rfl rfl rfl ?_
  refine k_become (hC'.2.2.2.1 _ (hC'.2.2.2.2.1 (mn σ x) (by omega)).1) ?_
  refine aft_n ?_
  refine mw_aload i_37_139 (L := CA x) rfl ?_
  refine mw_get i_37_140 hC'.1 (v := nI (mn σ x + 1)) (by rw [up2_ne (by simp), up2_ne (by simp), up2_ne (by simp), up2_ne (by simp), up2_ne (by simp), up2_ne (by simp), up2_at, upd_at]) ?_
  refine mw_const i_37_141 (v := nI 1) (by decide) ?_
  refine mw_isub i_37_142 (w := nI (mn σ x)) sub1 ?_
  refine mw_iretI i_37_143 (x := nI (mn σ x)) rt_37 ?_
  exact q0 _ _ _ hS' hFK (FrC_up (FrC_up (FrC_up (FrC_up (FrC_up (FrC_up (FrC_up (FrC_up (hF) (Nat.le_of_ble_eq_true rfl)) (Nat.le_of_ble_eq_true rfl)) (Nat.le_of_ble_eq_true rfl)) (Nat.le_of_ble_eq_true rfl)) (Nat.le_of_ble_eq_true rfl)) (Nat.le_of_ble_eq_true rfl)) (Nat.le_of_ble_eq_true rfl)) (Nat.le_of_ble_eq_true rfl)) (RC_book hr' hx hC' hy' h6 (fun d hd => (hV.2.2.2.2.2.1 d hd).2.1))
set_option maxRecDepth 20000 in
set_option maxHeartbeats 800000 in
theorem k_book4T {d b : Nat} {K : KM} {I : IM} {R : RM} {Q : QT} {n : Nat} {σ : ST} {x t f s : Nat} {pb : Prop} {mi ti : Int32}  (hd : 8 ≤ d) (hW : CW n σ K I R) (hx : x < 1000) (ht : t < 4) (hf : f < 10) (hs : s < 10) (h6 : mn σ x < 6) (hti : ti = (-1) ∨ isN ti (tn σ)) (hp : pb) (q4 : ¬ bkB σ x f s pb ti → Q (.inr 2) K I R) (q0 : bkB σ x f s pb ti → ∀ K' I' R', CSX K' R' → FrKR K K' R R' → FrC I I' → RC (bkS σ x t f s pb mi ti) I' R' → Q (.inl (some (pI (nI (mn σ x))))) K' I' R') : Mw d (b + 61) N_X5_book 68 [some (pR (some RING)), some (pI (nI x)), some (pI (nI t)), some (pI (nI f)), some (pI (nI s)), some (pI (bI pb)), some (pI mi), some (pI ti), some (pR (some (CA (cix R x)))), none, none, none] [] K I R Q := by
  obtain ⟨d9, rfl⟩ : ∃ d9, d = d9 + 1 := ⟨d - 1, by omega⟩
  have hS := hW.1.1
  have hR := hW.2.1
  have hV := hW.2.2
  have hpp := hW.2.2.1.2
  have htt := hW.2.2.2.1.2
  have hdd := hW.2.2.2.2.1.2
  refine mw_iload i_37_68 (x := bI pb) rfl ?_
  refine mw_eqB i_37_69 rfl (fun c1 => ?_) (fun c1 => ?_)
  · skip
    exact absurd hp c1
  · skip
    refine mw_iload i_37_70 (x := nI f) rfl ?_
    refine mw_goto i_37_71 ?_
    refine mw_istore i_37_73 (ls' := [some (pR (some RING)), some (pI (nI x)), some (pI (nI t)), some (pI (nI f)), some (pI (nI s)), some (pI (bI pb)), some (pI mi), some (pI ti), some (pR (some (CA (cix R x)))), some (pI (nI f)), none, none]) rfl (Nat.le_of_ble_eq_true rfl) ?_
    refine mw_iload i_37_74 (x := bI pb) rfl ?_
    refine mw_eqB i_37_75 rfl (fun c2 => ?_) (fun c2 => ?_)
    · skip
      exact absurd hp c2
    · skip
      refine mw_iload i_37_76 (x := nI s) rfl ?_
      refine mw_goto i_37_77 ?_
      refine mw_istore i_37_79 (ls' := [some (pR (some RING)), some (pI (nI x)), some (pI (nI t)), some (pI (nI f)), some (pI (nI s)), some (pI (bI pb)), some (pI mi), some (pI ti), some (pR (some (CA (cix R x)))), some (pI (nI f)), some (pI (nI s)), none]) rfl (Nat.le_of_ble_eq_true rfl) ?_
      refine mw_aload i_37_80 (L := RING) rfl ?_
      refine mw_getR i_37_81 hS.1.1 (q := some ROS) hS.1.2.1 ?_
      refine mw_iload i_37_82 (x := nI f) rfl ?_
      refine mw_aald i_37_83 (jn := f) (n := 10) (by omega) (by omega) hS.2.1.1 (by decide) (q := some (WR f)) (hS.2.2.1 f (by omega)).1 ?_
      refine mw_iload i_37_84 (x := nI x) rfl ?_
      refine mw_callV i_37_85 mf_27 (as := [pI (nI x)]) (rest := []) (d' := d9) (b' := b + 61) (ls0 := [some (pR (some (WR f))), some (pI (nI x))]) rfl rfl rfl (Nat.le_of_ble_eq_true rfl) (hS.2.2.1 f (by omega)).2.1 rfl rfl rfl ?_
      refine k_isHurtOn hS (by omega) ?_
      rw [(RC_rd hR (w := f) (by omega)).2.2.2.2.1]
      refine aft_v ?_
      refine mw_neB i_37_86 rfl (fun c3 => ?_) (fun c3 => ?_)
      · skip
        refine mw_throw i_37_108 hx_37 (by omega) (by omega) ?_
        exact q4 (fun h => h.1 c3)
      · skip
        refine mw_aload i_37_87 (L := RING) rfl ?_
        refine mw_getR i_37_88 hS.1.1 (q := some ROS) hS.1.2.1 ?_
        refine mw_iload i_37_89 (x := nI s) rfl ?_
        refine mw_aald i_37_90 (jn := s) (n := 10) (by omega) (by omega) hS.2.1.1 (by decide) (q := some (WR s)) (hS.2.2.1 s (by omega)).1 ?_
        refine mw_iload i_37_91 (x := nI x) rfl ?_
        refine mw_callV i_37_92 mf_27 (as := [pI (nI x)]) (rest := []) (d' := d9) (b' := b + 61) (ls0 := [some (pR (some (WR s))), some (pI (nI x))]) rfl rfl rfl (Nat.le_of_ble_eq_true rfl) (hS.2.2.1 s (by omega)).2.1 rfl rfl rfl ?_
        refine k_isHurtOn hS (by omega) ?_
        rw [(RC_rd hR (w := s) (by omega)).2.2.2.2.1]
        refine aft_v ?_
        refine mw_neB i_37_93 rfl (fun c4 => ?_) (fun c4 => ?_)
        · skip
          refine mw_throw i_37_108 hx_37 (by omega) (by omega) ?_
          exact q4 (fun h => h.2.1 c4)
        · skip
          refine mw_aload i_37_94 (L := RING) rfl ?_
          refine mw_iload i_37_95 (x := ti) rfl ?_
          refine mw_iload i_37_96 (x := nI f) rfl ?_
          refine mw_iload i_37_97 (x := nI s) rfl ?_
          refine mw_callV i_37_98 mf_65 (as := [pI ti, pI (nI f), pI (nI s)]) (rest := []) (d' := d9) (b' := b + 61) (ls0 := [some (pR (some RING)), some (pI ti), some (pI (nI f)), some (pI (nI s)), none]) rfl rfl rfl (Nat.le_of_ble_eq_true rfl) hS.1.1 rfl rfl rfl ?_
          refine k_stk hW hti ?_
          refine aft_v ?_
          refine mw_eqB i_37_99 rfl (fun c5 => ?_) (fun c5 => ?_)
          · skip
            refine mw_throw i_37_108 hx_37 (by omega) (by omega) ?_
            exact q4 (fun h => c5 h.2.2.1)
          · skip
            refine mw_aload i_37_100 (L := RING) rfl ?_
            refine mw_getR i_37_101 hS.1.1 (q := some ROS) hS.1.2.1 ?_
            refine mw_iload i_37_102 (x := nI s) rfl ?_
            refine mw_aald i_37_103 (jn := s) (n := 10) (by omega) (by omega) hS.2.1.1 (by decide) (q := some (WR s)) (hS.2.2.1 s (by omega)).1 ?_
            refine mw_iload i_37_104 (x := nI f) rfl ?_
            refine mw_iload i_37_105 (x := nI x) rfl ?_
            refine mw_callV i_37_106 mf_28 (as := [pI (nI f), pI (nI x)]) (rest := []) (d' := d9) (b' := b + 61) (ls0 := [some (pR (some (WR s))), some (pI (nI f)), some (pI (nI x))]) rfl rfl rfl (Nat.le_of_ble_eq_true rfl) (hS.2.2.1 s (by omega)).2.1 rfl rfl rfl ?_
            refine k_isBarred hS (by omega) (by omega) ?_
            rw [bI_congr (brd_iff hW (lo := s) (wi := f) (by omega) (by omega) (nI x))]
            refine aft_v ?_
            refine mw_eqB i_37_107 rfl (fun c6 => ?_) (fun c6 => ?_)
            · skip
              exact k_book5T (by omega) hW hx ht hf hs h6 (q0 ⟨c3, c4, by first | assumption | exact Classical.not_not.mp c5, fun h => c6, fun h => absurd hp h⟩)
            · skip
              refine mw_throw i_37_108 hx_37 (by omega) (by omega) ?_
              exact q4 (fun h => h.2.2.2.1 hp c6)
set_option maxRecDepth 20000 in
set_option maxHeartbeats 800000 in
theorem k_book4F {d b : Nat} {K : KM} {I : IM} {R : RM} {Q : QT} {n : Nat} {σ : ST} {x t f s : Nat} {pb : Prop} {mi ti : Int32}  (hd : 8 ≤ d) (hW : CW n σ K I R) (hx : x < 1000) (ht : t < 4) (hf : f < 10) (hs : s < 10) (h6 : mn σ x < 6) (hti : ti = (-1) ∨ isN ti (tn σ)) (hp : ¬ pb) (q4 : ¬ bkB σ x f s pb ti → Q (.inr 2) K I R) (q0 : bkB σ x f s pb ti → ∀ K' I' R', CSX K' R' → FrKR K K' R R' → FrC I I' → RC (bkS σ x t f s pb mi ti) I' R' → Q (.inl (some (pI (nI (mn σ x))))) K' I' R') : Mw d (b + 61) N_X5_book 68 [some (pR (some RING)), some (pI (nI x)), some (pI (nI t)), some (pI (nI f)), some (pI (nI s)), some (pI (bI pb)), some (pI mi), some (pI ti), some (pR (some (CA (cix R x)))), none, none, none] [] K I R Q := by
  obtain ⟨d9, rfl⟩ : ∃ d9, d = d9 + 1 := ⟨d - 1, by omega⟩
  have hS := hW.1.1
  have hR := hW.2.1
  have hV := hW.2.2
  have hpp := hW.2.2.1.2
  have htt := hW.2.2.2.1.2
  have hdd := hW.2.2.2.2.1.2
  refine mw_iload i_37_68 (x := bI pb) rfl ?_
  refine mw_eqB i_37_69 rfl (fun c1 => ?_) (fun c1 => ?_)
  · skip
    refine mw_iload i_37_72 (x := nI s) rfl ?_
    refine mw_istore i_37_73 (ls' := [some (pR (some RING)), some (pI (nI x)), some (pI (nI t)), some (pI (nI f)), some (pI (nI s)), some (pI (bI pb)), some (pI mi), some (pI ti), some (pR (some (CA (cix R x)))), some (pI (nI s)), none, none]) rfl (Nat.le_of_ble_eq_true rfl) ?_
    refine mw_iload i_37_74 (x := bI pb) rfl ?_
    refine mw_eqB i_37_75 rfl (fun c2 => ?_) (fun c2 => ?_)
    · skip
      refine mw_iload i_37_78 (x := nI f) rfl ?_
      refine mw_istore i_37_79 (ls' := [some (pR (some RING)), some (pI (nI x)), some (pI (nI t)), some (pI (nI f)), some (pI (nI s)), some (pI (bI pb)), some (pI mi), some (pI ti), some (pR (some (CA (cix R x)))), some (pI (nI s)), some (pI (nI f)), none]) rfl (Nat.le_of_ble_eq_true rfl) ?_
      refine mw_aload i_37_80 (L := RING) rfl ?_
      refine mw_getR i_37_81 hS.1.1 (q := some ROS) hS.1.2.1 ?_
      refine mw_iload i_37_82 (x := nI f) rfl ?_
      refine mw_aald i_37_83 (jn := f) (n := 10) (by omega) (by omega) hS.2.1.1 (by decide) (q := some (WR f)) (hS.2.2.1 f (by omega)).1 ?_
      refine mw_iload i_37_84 (x := nI x) rfl ?_
      refine mw_callV i_37_85 mf_27 (as := [pI (nI x)]) (rest := []) (d' := d9) (b' := b + 61) (ls0 := [some (pR (some (WR f))), some (pI (nI x))]) rfl rfl rfl (Nat.le_of_ble_eq_true rfl) (hS.2.2.1 f (by omega)).2.1 rfl rfl rfl ?_
      refine k_isHurtOn hS (by omega) ?_
      rw [(RC_rd hR (w := f) (by omega)).2.2.2.2.1]
      refine aft_v ?_
      refine mw_neB i_37_86 rfl (fun c3 => ?_) (fun c3 => ?_)
      · skip
        refine mw_throw i_37_108 hx_37 (by omega) (by omega) ?_
        exact q4 (fun h => h.1 c3)
      · skip
        refine mw_aload i_37_87 (L := RING) rfl ?_
        refine mw_getR i_37_88 hS.1.1 (q := some ROS) hS.1.2.1 ?_
        refine mw_iload i_37_89 (x := nI s) rfl ?_
        refine mw_aald i_37_90 (jn := s) (n := 10) (by omega) (by omega) hS.2.1.1 (by decide) (q := some (WR s)) (hS.2.2.1 s (by omega)).1 ?_
        refine mw_iload i_37_91 (x := nI x) rfl ?_
        refine mw_callV i_37_92 mf_27 (as := [pI (nI x)]) (rest := []) (d' := d9) (b' := b + 61) (ls0 := [some (pR (some (WR s))), some (pI (nI x))]) rfl rfl rfl (Nat.le_of_ble_eq_true rfl) (hS.2.2.1 s (by omega)).2.1 rfl rfl rfl ?_
        refine k_isHurtOn hS (by omega) ?_
        rw [(RC_rd hR (w := s) (by omega)).2.2.2.2.1]
        refine aft_v ?_
        refine mw_neB i_37_93 rfl (fun c4 => ?_) (fun c4 => ?_)
        · skip
          refine mw_throw i_37_108 hx_37 (by omega) (by omega) ?_
          exact q4 (fun h => h.2.1 c4)
        · skip
          refine mw_aload i_37_94 (L := RING) rfl ?_
          refine mw_iload i_37_95 (x := ti) rfl ?_
          refine mw_iload i_37_96 (x := nI f) rfl ?_
          refine mw_iload i_37_97 (x := nI s) rfl ?_
          refine mw_callV i_37_98 mf_65 (as := [pI ti, pI (nI f), pI (nI s)]) (rest := []) (d' := d9) (b' := b + 61) (ls0 := [some (pR (some RING)), some (pI ti), some (pI (nI f)), some (pI (nI s)), none]) rfl rfl rfl (Nat.le_of_ble_eq_true rfl) hS.1.1 rfl rfl rfl ?_
          refine k_stk hW hti ?_
          refine aft_v ?_
          refine mw_eqB i_37_99 rfl (fun c5 => ?_) (fun c5 => ?_)
          · skip
            refine mw_throw i_37_108 hx_37 (by omega) (by omega) ?_
            exact q4 (fun h => c5 h.2.2.1)
          · skip
            refine mw_aload i_37_100 (L := RING) rfl ?_
            refine mw_getR i_37_101 hS.1.1 (q := some ROS) hS.1.2.1 ?_
            refine mw_iload i_37_102 (x := nI f) rfl ?_
            refine mw_aald i_37_103 (jn := f) (n := 10) (by omega) (by omega) hS.2.1.1 (by decide) (q := some (WR f)) (hS.2.2.1 f (by omega)).1 ?_
            refine mw_iload i_37_104 (x := nI s) rfl ?_
            refine mw_iload i_37_105 (x := nI x) rfl ?_
            refine mw_callV i_37_106 mf_28 (as := [pI (nI s), pI (nI x)]) (rest := []) (d' := d9) (b' := b + 61) (ls0 := [some (pR (some (WR f))), some (pI (nI s)), some (pI (nI x))]) rfl rfl rfl (Nat.le_of_ble_eq_true rfl) (hS.2.2.1 f (by omega)).2.1 rfl rfl rfl ?_
            refine k_isBarred hS (by omega) (by omega) ?_
            rw [bI_congr (brd_iff hW (lo := f) (wi := s) (by omega) (by omega) (nI x))]
            refine aft_v ?_
            refine mw_eqB i_37_107 rfl (fun c6 => ?_) (fun c6 => ?_)
            · skip
              exact k_book5F (by omega) hW hx ht hf hs h6 (q0 ⟨c3, c4, by first | assumption | exact Classical.not_not.mp c5, fun h => absurd h hp, fun h => c6⟩)
            · skip
              refine mw_throw i_37_108 hx_37 (by omega) (by omega) ?_
              exact q4 (fun h => h.2.2.2.2 hp c6)
    · skip
      exact absurd c2 hp
  · skip
    exact absurd c1 hp
set_option maxRecDepth 20000 in
set_option maxHeartbeats 800000 in
theorem k_book2 {d b : Nat} {K : KM} {I : IM} {R : RM} {Q : QT} {n : Nat} {σ : ST} {x t f s : Nat} {pb : Prop} {mi ti : Int32}  (hd : 8 ≤ d) (hW : CW n σ K I R) (hx : x < 1000) (ht : t < 4) (hf : f < 10) (hs : s < 10) (hti : ti = (-1) ∨ isN ti (tn σ)) (q3 : ¬ bkA σ x t f s mi ti → Q (.inr 2) K I R) (q4 : bkA σ x t f s mi ti → ¬ bkB σ x f s pb ti → Q (.inr 2) K I R) (q0 : bkA σ x t f s mi ti → bkB σ x f s pb ti → ∀ K' I' R', CSX K' R' → FrKR K K' R R' → FrC I I' → RC (bkS σ x t f s pb mi ti) I' R' → Q (.inl (some (pI (nI (mn σ x))))) K' I' R') : Mw d (b + 61) N_X5_book 42 [some (pR (some RING)), some (pI (nI x)), some (pI (nI t)), some (pI (nI f)), some (pI (nI s)), some (pI (bI pb)), some (pI mi), some (pI ti), none, none, none, none] [] K I R Q := by
  obtain ⟨d9, rfl⟩ : ∃ d9, d = d9 + 1 := ⟨d - 1, by omega⟩
  have hS := hW.1.1
  have hR := hW.2.1
  have hV := hW.2.2
  have hpp := hW.2.2.1.2
  have htt := hW.2.2.2.1.2
  have hdd := hW.2.2.2.2.1.2
  refine mw_aload i_37_42 (L := RING) rfl ?_
  refine mw_iload i_37_43 (x := nI x) rfl ?_
  obtain ⟨hC_x, hz_x, hz6_x, hp_x, ht0_x, hm_x⟩ := CW_c hW (d := x) (by omega)
  refine mw_callV i_37_44 mf_63 (as := [pI (nI x)]) (rest := []) (d' := d9) (b' := b + 61) (ls0 := [some (pR (some RING)), some (pI (nI x))]) rfl rfl rfl (Nat.le_of_ble_eq_true rfl) hS.1.1 rfl rfl rfl ?_
  refine k_cardOf (by omega) hW.1 (by omega) ?_
  refine aft_v ?_
  refine mw_astore i_37_45 (ls' := [some (pR (some RING)), some (pI (nI x)), some (pI (nI t)), some (pI (nI f)), some (pI (nI s)), some (pI (bI pb)), some (pI mi), some (pI ti), some (pR (some (CA (cix R x)))), none, none, none]) rfl (Nat.le_of_ble_eq_true rfl) ?_
  refine mw_aload i_37_46 (L := CA (cix R x)) rfl ?_
  refine mw_iload i_37_47 (x := nI t) rfl ?_
  refine mw_iload i_37_48 (x := mi) rfl ?_
  refine mw_callV i_37_49 mf_2 (as := [pI (nI t), pI mi]) (rest := []) (d' := d9) (b' := b + 61) (ls0 := [some (pR (some (CA (cix R x)))), some (pI (nI t)), some (pI mi)]) rfl rfl rfl (Nat.le_of_ble_eq_true rfl) hC_x.1 rfl rfl rfl ?_
  refine k_hasRoom (by omega) hC_x hz_x hz6_x ?_
  rw [bI_congr (rom_iff hW hx t mi)]
  refine aft_v ?_
  refine mw_eqB i_37_50 rfl (fun c1 => ?_) (fun c1 => ?_)
  · skip
    refine mw_throw i_37_63 hx_37 (by omega) (by omega) ?_
    exact q3 (fun h => c1 h.1)
  · skip
    refine mw_aload i_37_51 (L := CA (cix R x)) rfl ?_
    refine mw_iload i_37_52 (x := nI f) rfl ?_
    refine mw_callV i_37_53 mf_3 (as := [pI (nI f)]) (rest := []) (d' := d9) (b' := b + 61) (ls0 := [some (pR (some (CA (cix R x)))), some (pI (nI f)), none]) rfl rfl rfl (Nat.le_of_ble_eq_true rfl) hC_x.1 rfl rfl rfl ?_
    refine k_hasW hC_x hz_x hz6_x ?_
    rw [bI_congr (onC_iff hW hx (nI f))]
    refine aft_v ?_
    refine mw_neB i_37_54 rfl (fun c2 => ?_) (fun c2 => ?_)
    · skip
      refine mw_throw i_37_63 hx_37 (by omega) (by omega) ?_
      exact q3 (fun h => h.2.1 c2)
    · skip
      refine mw_aload i_37_55 (L := CA (cix R x)) rfl ?_
      refine mw_iload i_37_56 (x := nI s) rfl ?_
      refine mw_callV i_37_57 mf_3 (as := [pI (nI s)]) (rest := []) (d' := d9) (b' := b + 61) (ls0 := [some (pR (some (CA (cix R x)))), some (pI (nI s)), none]) rfl rfl rfl (Nat.le_of_ble_eq_true rfl) hC_x.1 rfl rfl rfl ?_
      refine k_hasW hC_x hz_x hz6_x ?_
      rw [bI_congr (onC_iff hW hx (nI s))]
      refine aft_v ?_
      refine mw_neB i_37_58 rfl (fun c3 => ?_) (fun c3 => ?_)
      · skip
        refine mw_throw i_37_63 hx_37 (by omega) (by omega) ?_
        exact q3 (fun h => h.2.2.1 c3)
      · skip
        refine mw_aload i_37_59 (L := CA (cix R x)) rfl ?_
        refine mw_iload i_37_60 (x := ti) rfl ?_
        refine mw_callV i_37_61 mf_4 (as := [pI ti]) (rest := []) (d' := d9) (b' := b + 61) (ls0 := [some (pR (some (CA (cix R x)))), some (pI ti), none]) rfl rfl rfl (Nat.le_of_ble_eq_true rfl) hC_x.1 rfl rfl rfl ?_
        refine k_hasT hC_x hz_x hz6_x ?_
        rw [bI_congr (hTi_iff hW hx ti)]
        refine aft_v ?_
        refine mw_eqB i_37_62 rfl (fun c4 => ?_) (fun c4 => ?_)
        · skip
          have hA : bkA σ x t f s mi ti := ⟨by first | assumption | exact Classical.not_not.mp c1, c2, c3, c4⟩
          by_cases hp : pb
          · exact k_book4T hd hW hx ht hf hs hA.1.2.1 hti hp (q4 hA) (q0 hA)
          · exact k_book4F hd hW hx ht hf hs hA.1.2.1 hti hp (q4 hA) (q0 hA)
        · skip
          refine mw_throw i_37_63 hx_37 (by omega) (by omega) ?_
          exact q3 (fun h => h.2.2.2 c4)
theorem inr_dn {x : Int32} {n : Nat} (hn : n ≤ 999) (h : inr x (nI n) (nI 999)) : ∃ j, n ≤ j ∧ j < 1000 ∧ x = nI j := by
  unfold inr at h
  rw [Int32.le_iff_toInt_le, Int32.le_iff_toInt_le, nI_toInt (by omega), nI_toInt (by decide)] at h
  obtain ⟨j, hj, rfl⟩ := (isN_i (x := x) (n := 1000) (by decide)).mpr ⟨by omega, by omega⟩
  rw [nI_toInt (by omega)] at h
  exact ⟨j, by omega, hj, rfl⟩
def bk1 (σ : ST) (tw fi se ti : Int32) (t f s : Nat) : Prop := t < 4 ∧ f < pn σ ∧ s < pn σ ∧ tw = nI t ∧ fi = nI f ∧ se = nI s ∧ (ti = (-1) ∨ isN ti (tn σ))
def bk2 (σ : ST) (day mi : Int32) (f s x : Nat) : Prop := dn σ ≤ x ∧ x < 1000 ∧ day = nI x ∧ inr mi (nI 1) (nI 60) ∧ ¬ f = s
set_option maxRecDepth 20000 in
set_option maxHeartbeats 800000 in
theorem k_book1 {d b : Nat} {K : KM} {I : IM} {R : RM} {Q : QT} {n : Nat} {σ : ST} {t f s : Nat} {pb : Prop} {day mi ti : Int32}  (hd : 8 ≤ d) (hW : CW n σ K I R) (ht : t < 4) (hf : f < 10) (hs : s < 10) (hti : ti = (-1) ∨ isN ti (tn σ)) (q2 : (∀ x, ¬ bk2 σ day mi f s x) → Q (.inr 1) K I R) (q3 : ∀ x, bk2 σ day mi f s x → ¬ bkA σ x t f s mi ti → Q (.inr 2) K I R) (q4 : ∀ x, bk2 σ day mi f s x → bkA σ x t f s mi ti → ¬ bkB σ x f s pb ti → Q (.inr 2) K I R) (q0 : ∀ x, bk2 σ day mi f s x → bkA σ x t f s mi ti → bkB σ x f s pb ti → ∀ K' I' R', CSX K' R' → FrKR K K' R R' → FrC I I' → RC (bkS σ x t f s pb mi ti) I' R' → Q (.inl (some (pI (nI (mn σ x))))) K' I' R') : Mw d (b + 61) N_X5_book 23 [some (pR (some RING)), some (pI day), some (pI (nI t)), some (pI (nI f)), some (pI (nI s)), some (pI (bI pb)), some (pI mi), some (pI ti), none, none, none, none] [] K I R Q := by
  obtain ⟨d9, rfl⟩ : ∃ d9, d = d9 + 1 := ⟨d - 1, by omega⟩
  have hS := hW.1.1
  have hR := hW.2.1
  have hV := hW.2.2
  have hpp := hW.2.2.1.2
  have htt := hW.2.2.2.1.2
  have hdd := hW.2.2.2.2.1.2
  refine mw_iload i_37_23 (x := day) rfl ?_
  refine mw_aload i_37_24 (L := RING) rfl ?_
  refine mw_get i_37_25 hS.1.1 (v := nI (dn σ)) (CW_d hW) ?_
  refine mw_const i_37_26 (v := nI 999) (by decide) ?_
  refine mw_callS i_37_27 mf_59 (as := [pI day, pI (nI (dn σ)), pI (nI 999)]) (rest := []) (d' := d9) (b' := b + 61) (ls0 := [some (pI day), some (pI (nI (dn σ))), some (pI (nI 999))]) rfl rfl rfl (Nat.le_of_ble_eq_true rfl) rfl rfl rfl ?_
  refine k_within ?_
  refine aft_v ?_
  refine mw_eqB i_37_28 rfl (fun c1 => ?_) (fun c1 => ?_)
  · skip
    refine mw_throw i_37_37 hx_37 (by omega) (by omega) ?_
    exact q2 (fun x h => c1 (by rw [h.2.2.1]; exact ⟨nI_le h.1 (by have := h.2.1; omega), nI_le (by have := h.2.1; omega) (by decide)⟩))
  · skip
    obtain ⟨x, hx1, hx2, rfl⟩ := inr_dn hdd c1
    refine mw_iload i_37_29 (x := mi) rfl ?_
    refine mw_const i_37_30 (v := nI 1) (by decide) ?_
    refine mw_const i_37_31 (v := nI 60) (by decide) ?_
    refine mw_callS i_37_32 mf_59 (as := [pI mi, pI (nI 1), pI (nI 60)]) (rest := []) (d' := d9) (b' := b + 61) (ls0 := [some (pI mi), some (pI (nI 1)), some (pI (nI 60))]) rfl rfl rfl (Nat.le_of_ble_eq_true rfl) rfl rfl rfl ?_
    refine k_within ?_
    refine aft_v ?_
    refine mw_eqB i_37_33 rfl (fun c2 => ?_) (fun c2 => ?_)
    · skip
      refine mw_throw i_37_37 hx_37 (by omega) (by omega) ?_
      exact q2 (fun x h => c2 h.2.2.2.1)
    · skip
      refine mw_iload i_37_34 (x := nI f) rfl ?_
      refine mw_iload i_37_35 (x := nI s) rfl ?_
      refine mw_ic i_37_36 (p := ¬ f = s) (not_congr (nI_eq (by omega) (by omega))) (fun c3 => ?_) (fun c3 => ?_)
      · skip
        have h2 : bk2 σ (nI x) mi f s x := ⟨hx1, hx2, rfl, c2, by omega⟩
        exact k_book2 hd hW hx2 ht hf hs hti (q3 x h2) (q4 x h2) (q0 x h2)
      · skip
        refine mw_throw i_37_37 hx_37 (by omega) (by omega) ?_
        exact q2 (fun x h => by have := h.2.2.2.2; omega)
set_option maxRecDepth 20000 in
set_option maxHeartbeats 800000 in
theorem k_book {d b : Nat} {K : KM} {I : IM} {R : RM} {Q : QT} {n : Nat} {σ : ST} {pb : Prop} {day tw fi se mi ti : Int32}  (hd : 8 ≤ d) (hW : CW n σ K I R)  (q1 : (∀ t f s, ¬ bk1 σ tw fi se ti t f s) → Q (.inr 3) K I R) (q2 : ∀ t f s, bk1 σ tw fi se ti t f s → (∀ x, ¬ bk2 σ day mi f s x) → Q (.inr 1) K I R) (q3 : ∀ t f s, bk1 σ tw fi se ti t f s → ∀ x, bk2 σ day mi f s x → ¬ bkA σ x t f s mi ti → Q (.inr 2) K I R) (q4 : ∀ t f s, bk1 σ tw fi se ti t f s → ∀ x, bk2 σ day mi f s x → bkA σ x t f s mi ti → ¬ bkB σ x f s pb ti → Q (.inr 2) K I R) (q0 : ∀ t f s, bk1 σ tw fi se ti t f s → ∀ x, bk2 σ day mi f s x → bkA σ x t f s mi ti → bkB σ x f s pb ti → ∀ K' I' R', CSX K' R' → FrKR K K' R R' → FrC I I' → RC (bkS σ x t f s pb mi ti) I' R' → Q (.inl (some (pI (nI (mn σ x))))) K' I' R') : Mw d (b + 61) N_X5_book 0 [some (pR (some RING)), some (pI day), some (pI tw), some (pI fi), some (pI se), some (pI (bI pb)), some (pI mi), some (pI ti), none, none, none, none] [] K I R Q := by
  obtain ⟨d9, rfl⟩ : ∃ d9, d = d9 + 1 := ⟨d - 1, by omega⟩
  have hS := hW.1.1
  have hR := hW.2.1
  have hV := hW.2.2
  have hpp := hW.2.2.1.2
  have htt := hW.2.2.2.1.2
  have hdd := hW.2.2.2.2.1.2
  refine mw_iload i_37_0 (x := tw) rfl ?_
  refine mw_callS i_37_1 mf_62 (as := [pI tw]) (rest := []) (d' := d9) (b' := b + 61) (ls0 := [some (pI tw)]) rfl rfl rfl (Nat.le_of_ble_eq_true rfl) rfl rfl rfl ?_
  refine k_isTown ?_
  refine aft_v ?_
  refine mw_eqB i_37_2 rfl (fun c1 => ?_) (fun c1 => ?_)
  · skip
    refine mw_throw i_37_18 hx_37 (by omega) (by omega) ?_
    exact q1 (fun t f s h => c1 ⟨_, h.1, h.2.2.2.1⟩)
  · skip
    obtain ⟨j_tw, h_tw, rfl⟩ := c1
    refine mw_aload i_37_3 (L := RING) rfl ?_
    refine mw_iload i_37_4 (x := fi) rfl ?_
    refine mw_callV i_37_5 mf_60 (as := [pI fi]) (rest := []) (d' := d9) (b' := b + 61) (ls0 := [some (pR (some RING)), some (pI fi)]) rfl rfl rfl (Nat.le_of_ble_eq_true rfl) hS.1.1 rfl rfl rfl ?_
    refine k_isWrestler hS (CW_p hW) hpp ?_
    refine aft_v ?_
    refine mw_eqB i_37_6 rfl (fun c2 => ?_) (fun c2 => ?_)
    · skip
      refine mw_throw i_37_18 hx_37 (by omega) (by omega) ?_
      exact q1 (fun t f s h => c2 ⟨_, h.2.1, h.2.2.2.2.1⟩)
    · skip
      obtain ⟨j_fi, h_fi, rfl⟩ := c2
      refine mw_aload i_37_7 (L := RING) rfl ?_
      refine mw_iload i_37_8 (x := se) rfl ?_
      refine mw_callV i_37_9 mf_60 (as := [pI se]) (rest := []) (d' := d9) (b' := b + 61) (ls0 := [some (pR (some RING)), some (pI se)]) rfl rfl rfl (Nat.le_of_ble_eq_true rfl) hS.1.1 rfl rfl rfl ?_
      refine k_isWrestler hS (CW_p hW) hpp ?_
      refine aft_v ?_
      refine mw_eqB i_37_10 rfl (fun c3 => ?_) (fun c3 => ?_)
      · skip
        refine mw_throw i_37_18 hx_37 (by omega) (by omega) ?_
        exact q1 (fun t f s h => c3 ⟨_, h.2.2.1, h.2.2.2.2.2.1⟩)
      · skip
        obtain ⟨j_se, h_se, rfl⟩ := c3
        refine mw_iload i_37_11 (x := ti) rfl ?_
        refine mw_const i_37_12 (v := (-1)) (by decide) ?_
        refine mw_ic i_37_13 (p := ti = (-1)) Iff.rfl (fun c4 => ?_) (fun c4 => ?_)
        · skip
          have h1 : bk1 σ (nI j_tw) (nI j_fi) (nI j_se) ti j_tw j_fi j_se := ⟨by assumption, by assumption, by assumption, rfl, rfl, rfl, Or.inl c4⟩
          exact k_book1 hd hW (by assumption) (by omega) (by omega) h1.2.2.2.2.2.2 (q2 _ _ _ h1) (q3 _ _ _ h1) (q4 _ _ _ h1) (q0 _ _ _ h1)
        · skip
          refine mw_aload i_37_14 (L := RING) rfl ?_
          refine mw_iload i_37_15 (x := ti) rfl ?_
          refine mw_callV i_37_16 mf_61 (as := [pI ti]) (rest := []) (d' := d9) (b' := b + 61) (ls0 := [some (pR (some RING)), some (pI ti)]) rfl rfl rfl (Nat.le_of_ble_eq_true rfl) hS.1.1 rfl rfl rfl ?_
          refine k_isTitle hS (CW_t hW) (by omega) ?_
          refine aft_v ?_
          refine mw_neB i_37_17 rfl (fun c5 => ?_) (fun c5 => ?_)
          · skip
            have h1 : bk1 σ (nI j_tw) (nI j_fi) (nI j_se) ti j_tw j_fi j_se := ⟨by assumption, by assumption, by assumption, rfl, rfl, rfl, Or.inr c5⟩
            exact k_book1 hd hW (by assumption) (by omega) (by omega) h1.2.2.2.2.2.2 (q2 _ _ _ h1) (q3 _ _ _ h1) (q4 _ _ _ h1) (q0 _ _ _ h1)
          · skip
            refine mw_throw i_37_18 hx_37 (by omega) (by omega) ?_
            exact q1 (fun t f s h => h.2.2.2.2.2.2.elim c4 c5)
