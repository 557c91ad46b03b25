/-! the soundness of the pure machine -/
set_option maxHeartbeats 4000000 in
theorem snd_step {l : Launch} (hlt : l.stackTraces = false) {base : Nat} {D : va_G} (HC : ∀ y i r, pg_at y i = some r → pg_own y ≠ "java/lang/Math" → chk y i = true) {d b y i : Nat} {ls : List (Option PV)} {st : List PV} {K : KM} {I : IM} {R : RM} {Q : QT} (h : Mst (Snd l base D) d b y i ls st K I R Q) : Snd l base D d b y i ls st K I R Q := by
  intro p e rm s m args below meth cc H locs cells slots lsA stK am am0 K0 hcx hsf hma hdf hdl hcb hsb hh hS hl hs he
  obtain ⟨op, a, c, z, hi, h⟩ := h
  have HK := chk_at hi (HC y i _ hi hma)
  rcases h with h | h | h
  · unfold stA at h
    split at h
    · exact sd_0 HK h p e rm s m args below meth cc H locs cells slots lsA stK am am0 K0 hcx hsf hma hdf hdl hcb hsb hh hS hl hs he
    · exact sd_1 HK h p e rm s m args below meth cc H locs cells slots lsA stK am am0 K0 hcx hsf hma hdf hdl hcb hsb hh hS hl hs he
    · exact sd_2 HK h p e rm s m args below meth cc H locs cells slots lsA stK am am0 K0 hcx hsf hma hdf hdl hcb hsb hh hS hl hs he
    · exact sd_3 HK h p e rm s m args below meth cc H locs cells slots lsA stK am am0 K0 hcx hsf hma hdf hdl hcb hsb hh hS hl hs he
    · exact sd_4 HK h p e rm s m args below meth cc H locs cells slots lsA stK am am0 K0 hcx hsf hma hdf hdl hcb hsb hh hS hl hs he
    · exact sd_5 HK h p e rm s m args below meth cc H locs cells slots lsA stK am am0 K0 hcx hsf hma hdf hdl hcb hsb hh hS hl hs he
    · exact sd_6 HK h p e rm s m args below meth cc H locs cells slots lsA stK am am0 K0 hcx hsf hma hdf hdl hcb hsb hh hS hl hs he
    · exact sd_7 HK h p e rm s m args below meth cc H locs cells slots lsA stK am am0 K0 hcx hsf hma hdf hdl hcb hsb hh hS hl hs he
    · exact sd_8 HK h p e rm s m args below meth cc H locs cells slots lsA stK am am0 K0 hcx hsf hma hdf hdl hcb hsb hh hS hl hs he
    · exact sd_9 HK h p e rm s m args below meth cc H locs cells slots lsA stK am am0 K0 hcx hsf hma hdf hdl hcb hsb hh hS hl hs he
    · exact sd_10 HK h p e rm s m args below meth cc H locs cells slots lsA stK am am0 K0 hcx hsf hma hdf hdl hcb hsb hh hS hl hs he
    · exact sd_11 HK h p e rm s m args below meth cc H locs cells slots lsA stK am am0 K0 hcx hsf hma hdf hdl hcb hsb hh hS hl hs he
    · exact sd_12 HK h p e rm s m args below meth cc H locs cells slots lsA stK am am0 K0 hcx hsf hma hdf hdl hcb hsb hh hS hl hs he
    · exact sd_13 HK h p e rm s m args below meth cc H locs cells slots lsA stK am am0 K0 hcx hsf hma hdf hdl hcb hsb hh hS hl hs he
    · exact sd_14 HK h p e rm s m args below meth cc H locs cells slots lsA stK am am0 K0 hcx hsf hma hdf hdl hcb hsb hh hS hl hs he
    · exact sd_15 HK h p e rm s m args below meth cc H locs cells slots lsA stK am am0 K0 hcx hsf hma hdf hdl hcb hsb hh hS hl hs he
    · exact sd_16 HK h p e rm s m args below meth cc H locs cells slots lsA stK am am0 K0 hcx hsf hma hdf hdl hcb hsb hh hS hl hs he
    · exact sd_17 HK h p e rm s m args below meth cc H locs cells slots lsA stK am am0 K0 hcx hsf hma hdf hdl hcb hsb hh hS hl hs he
    · exact sd_18 HK h p e rm s m args below meth cc H locs cells slots lsA stK am am0 K0 hcx hsf hma hdf hdl hcb hsb hh hS hl hs he
    · exact sd_19 HK h p e rm s m args below meth cc H locs cells slots lsA stK am am0 K0 hcx hsf hma hdf hdl hcb hsb hh hS hl hs he
    · exact sd_20 HK h p e rm s m args below meth cc H locs cells slots lsA stK am am0 K0 hcx hsf hma hdf hdl hcb hsb hh hS hl hs he
    · exact sd_21 HK h p e rm s m args below meth cc H locs cells slots lsA stK am am0 K0 hcx hsf hma hdf hdl hcb hsb hh hS hl hs he
    · exact sd_22 HK h p e rm s m args below meth cc H locs cells slots lsA stK am am0 K0 hcx hsf hma hdf hdl hcb hsb hh hS hl hs he
    · exact sd_23 HK h p e rm s m args below meth cc H locs cells slots lsA stK am am0 K0 hcx hsf hma hdf hdl hcb hsb hh hS hl hs he
    · exact sd_54 HK h p e rm s m args below meth cc H locs cells slots lsA stK am am0 K0 hcx hsf hma hdf hdl hcb hsb hh hS hl hs he
    · exact sd_55 HK h p e rm s m args below meth cc H locs cells slots lsA stK am am0 K0 hcx hsf hma hdf hdl hcb hsb hh hS hl hs he
    · exact sd_56 HK h p e rm s m args below meth cc H locs cells slots lsA stK am am0 K0 hcx hsf hma hdf hdl hcb hsb hh hS hl hs he
    · exact sd_57 HK h p e rm s m args below meth cc H locs cells slots lsA stK am am0 K0 hcx hsf hma hdf hdl hcb hsb hh hS hl hs he
    · exact h.elim
  · unfold stB at h
    split at h
    · exact sd_24 HK h p e rm s m args below meth cc H locs cells slots lsA stK am am0 K0 hcx hsf hma hdf hdl hcb hsb hh hS hl hs he
    · exact sd_25 HK h p e rm s m args below meth cc H locs cells slots lsA stK am am0 K0 hcx hsf hma hdf hdl hcb hsb hh hS hl hs he
    · exact sd_26 HK h p e rm s m args below meth cc H locs cells slots lsA stK am am0 K0 hcx hsf hma hdf hdl hcb hsb hh hS hl hs he
    · exact sd_27 HK h p e rm s m args below meth cc H locs cells slots lsA stK am am0 K0 hcx hsf hma hdf hdl hcb hsb hh hS hl hs he
    · exact sd_28 HK h p e rm s m args below meth cc H locs cells slots lsA stK am am0 K0 hcx hsf hma hdf hdl hcb hsb hh hS hl hs he
    · exact sd_29 HK h p e rm s m args below meth cc H locs cells slots lsA stK am am0 K0 hcx hsf hma hdf hdl hcb hsb hh hS hl hs he
    · exact sd_30 HK h p e rm s m args below meth cc H locs cells slots lsA stK am am0 K0 hcx hsf hma hdf hdl hcb hsb hh hS hl hs he
    · exact sd_31 HK h p e rm s m args below meth cc H locs cells slots lsA stK am am0 K0 hcx hsf hma hdf hdl hcb hsb hh hS hl hs he
    · exact sd_32 HK h p e rm s m args below meth cc H locs cells slots lsA stK am am0 K0 hcx hsf hma hdf hdl hcb hsb hh hS hl hs he
    · exact sd_33 HK h p e rm s m args below meth cc H locs cells slots lsA stK am am0 K0 hcx hsf hma hdf hdl hcb hsb hh hS hl hs he
    · exact sd_34 HK h p e rm s m args below meth cc H locs cells slots lsA stK am am0 K0 hcx hsf hma hdf hdl hcb hsb hh hS hl hs he
    · exact sd_35 HK h p e rm s m args below meth cc H locs cells slots lsA stK am am0 K0 hcx hsf hma hdf hdl hcb hsb hh hS hl hs he
    · exact sd_36 HK h p e rm s m args below meth cc H locs cells slots lsA stK am am0 K0 hcx hsf hma hdf hdl hcb hsb hh hS hl hs he
    · exact sd_48 HK h p e rm s m args below meth cc H locs cells slots lsA stK am am0 K0 hcx hsf hma hdf hdl hcb hsb hh hS hl hs he
    · exact sd_50 HK h p e rm s m args below meth cc H locs cells slots lsA stK am am0 K0 hcx hsf hma hdf hdl hcb hsb hh hS hl hs he
    · exact h.elim
  · unfold stC at h
    split at h
    · exact sd_37 HK h p e rm s m args below meth cc H locs cells slots lsA stK am am0 K0 hcx hsf hma hdf hdl hcb hsb hh hS hl hs he
    · exact sd_38 HK h p e rm s m args below meth cc H locs cells slots lsA stK am am0 K0 hcx hsf hma hdf hdl hcb hsb hh hS hl hs he
    · exact sd_39 HK h p e rm s m args below meth cc H locs cells slots lsA stK am am0 K0 hcx hsf hma hdf hdl hcb hsb hh hS hl hs he
    · exact sd_40 HK h p e rm s m args below meth cc H locs cells slots lsA stK am am0 K0 hcx hsf hma hdf hdl hcb hsb hh hS hl hs he
    · exact sd_41 HK h p e rm s m args below meth cc H locs cells slots lsA stK am am0 K0 hcx hsf hma hdf hdl hcb hsb hh hS hl hs he
    · exact sd_42 HK h p e rm s m args below meth cc H locs cells slots lsA stK am am0 K0 hcx hsf hma hdf hdl hcb hsb hh hS hl hs he
    · exact sd_43 HK h p e rm s m args below meth cc H locs cells slots lsA stK am am0 K0 hcx hsf hma hdf hdl hcb hsb hh hS hl hs he
    · exact sd_44 hlt HK h p e rm s m args below meth cc H locs cells slots lsA stK am am0 K0 hcx hsf hma hdf hdl hcb hsb hh hS hl hs he
    · exact sd_45 HK h p e rm s m args below meth cc H locs cells slots lsA stK am am0 K0 hcx hsf hma hdf hdl hcb hsb hh hS hl hs he
    · exact sd_46 HK h p e rm s m args below meth cc H locs cells slots lsA stK am am0 K0 hcx hsf hma hdf hdl hcb hsb hh hS hl hs he
    · exact sd_47 HK h p e rm s m args below meth cc H locs cells slots lsA stK am am0 K0 hcx hsf hma hdf hdl hcb hsb hh hS hl hs he
    · exact sd_51 HK h p e rm s m args below meth cc H locs cells slots lsA stK am am0 K0 hcx hsf hma hdf hdl hcb hsb hh hS hl hs he
    · exact sd_52 HK h p e rm s m args below meth cc H locs cells slots lsA stK am am0 K0 hcx hsf hma hdf hdl hcb hsb hh hS hl hs he
    · exact sd_53 HK h p e rm s m args below meth cc H locs cells slots lsA stK am am0 K0 hcx hsf hma hdf hdl hcb hsb hh hS hl hs he
    · exact h.elim
theorem snd_all {l : Launch} (hlt : l.stackTraces = false) {base : Nat} {D : va_G} (HC : ∀ y i r, pg_at y i = some r → pg_own y ≠ "java/lang/Math" → chk y i = true) {d b y i : Nat} {ls : List (Option PV)} {st : List PV} {K : KM} {I : IM} {R : RM} {Q : QT} (h : Mw d b y i ls st K I R Q) : Snd l base D d b y i ls st K I R Q :=
  h (Snd l base D) (fun _ _ _ _ _ _ _ _ _ _ q => snd_step hlt HC q)

