/-! each call as a function: error number, answer, next numbers -/
def tk (x : Int32) : Nat := x.toNatClampNeg
theorem tk_n {n : Nat} (h : n < 2147483648) : tk (nI n) = n := nI_clamp h
noncomputable def Fz0 (σ : ST) (sk : Int32) (mi : Int32) (ro : Int32) : Nat × Int32 × ST := @ite _ (isN sk 100 ∧ isN mi 100 ∧ isN ro 2) (Classical.propDecidable _) (@ite _ (pn σ < 10) (Classical.propDecidable _) ((0, nI (pn σ), wrS σ sk mi ro)) (2, nI 0, σ)) (1, nI 0, σ)
theorem Fz0_1 {σ : ST} {sk : Int32} {mi : Int32} {ro : Int32} (h : ¬ (isN sk 100 ∧ isN mi 100 ∧ isN ro 2)) : Fz0 σ sk mi ro = (1, nI 0, σ) := if_neg h
theorem Fz0_2 {σ : ST} {sk : Int32} {mi : Int32} {ro : Int32} (h1 : isN sk 100 ∧ isN mi 100 ∧ isN ro 2) (h : ¬ (pn σ < 10)) : Fz0 σ sk mi ro = (2, nI 0, σ) := (if_pos h1).trans (if_neg h)
theorem Fz0_0 {σ : ST} {sk : Int32} {mi : Int32} {ro : Int32} (h1 : isN sk 100 ∧ isN mi 100 ∧ isN ro 2) (h2 : pn σ < 10) : Fz0 σ sk mi ro = (0, nI (pn σ), wrS σ sk mi ro) := (if_pos h1).trans (if_pos h2)
noncomputable def Fz1 (σ : ST) : Nat × Int32 × ST := @ite _ (tn σ < 4) (Classical.propDecidable _) ((0, nI (tn σ), tiS σ)) (1, nI 0, σ)
theorem Fz1_1 {σ : ST} (h : ¬ (tn σ < 4)) : Fz1 σ = (1, nI 0, σ) := if_neg h
theorem Fz1_0 {σ : ST} (h1 : tn σ < 4) : Fz1 σ = (0, nI (tn σ), tiS σ) := if_pos h1
noncomputable def Fz2 (σ : ST) (w : Int32) (o : Int32) (un : Int32) : Nat × Int32 × ST := @ite _ (isN w (pn σ) ∧ isN o (pn σ)) (Classical.propDecidable _) (@ite _ (¬ w = o ∧ inr un (-1) (nI 999)) (Classical.propDecidable _) ((0, σ 11 (10 * tk w + tk o) - nI 1, ups σ 11 (10 * tk w + tk o) (un + nI 1))) (2, nI 0, σ)) (1, nI 0, σ)
theorem Fz2_1 {σ : ST} {w : Int32} {o : Int32} {un : Int32} (h : ¬ (isN w (pn σ) ∧ isN o (pn σ))) : Fz2 σ w o un = (1, nI 0, σ) := if_neg h
theorem Fz2_2 {σ : ST} {w : Int32} {o : Int32} {un : Int32} (h1 : isN w (pn σ) ∧ isN o (pn σ)) (h : ¬ (¬ w = o ∧ inr un (-1) (nI 999))) : Fz2 σ w o un = (2, nI 0, σ) := (if_pos h1).trans (if_neg h)
theorem Fz2_0 {σ : ST} {w : Int32} {o : Int32} {un : Int32} (h1 : isN w (pn σ) ∧ isN o (pn σ)) (h2 : ¬ w = o ∧ inr un (-1) (nI 999)) : Fz2 σ w o un = (0, σ 11 (10 * tk w + tk o) - nI 1, ups σ 11 (10 * tk w + tk o) (un + nI 1)) := (if_pos h1).trans (if_pos h2)
noncomputable def Fz3 (σ : ST) (w : Int32) (day : Int32) : Nat × Int32 × ST := @ite _ (isN w (pn σ)) (Classical.propDecidable _) (@ite _ (isN day 1000) (Classical.propDecidable _) ((0, σ 12 (tk w), ups σ 12 (tk w) day)) (2, nI 0, σ)) (1, nI 0, σ)
theorem Fz3_1 {σ : ST} {w : Int32} {day : Int32} (h : ¬ (isN w (pn σ))) : Fz3 σ w day = (1, nI 0, σ) := if_neg h
theorem Fz3_2 {σ : ST} {w : Int32} {day : Int32} (h1 : isN w (pn σ)) (h : ¬ (isN day 1000)) : Fz3 σ w day = (2, nI 0, σ) := (if_pos h1).trans (if_neg h)
theorem Fz3_0 {σ : ST} {w : Int32} {day : Int32} (h1 : isN w (pn σ)) (h2 : isN day 1000) : Fz3 σ w day = (0, σ 12 (tk w), ups σ 12 (tk w) day) := (if_pos h1).trans (if_pos h2)
noncomputable def Fz4 (σ : ST) (day : Int32) (tw : Int32) (fi : Int32) (se : Int32) (pb : Prop) (mi : Int32) (ti : Int32) : Nat × Int32 × ST := @ite _ (isN tw 4 ∧ isN fi (pn σ) ∧ isN se (pn σ) ∧ (ti = (-1) ∨ isN ti (tn σ))) (Classical.propDecidable _) (@ite _ (inr day (nI (dn σ)) (nI 999) ∧ inr mi (nI 1) (nI 60) ∧ ¬ fi = se) (Classical.propDecidable _) (@ite _ (bkA σ (tk day) (tk tw) (tk fi) (tk se) mi ti ∧ bkB σ (tk day) (tk fi) (tk se) pb ti) (Classical.propDecidable _) ((0, nI (mn σ (tk day)), bkS σ (tk day) (tk tw) (tk fi) (tk se) pb mi ti)) (3, nI 0, σ)) (2, nI 0, σ)) (1, nI 0, σ)
theorem Fz4_1 {σ : ST} {day : Int32} {tw : Int32} {fi : Int32} {se : Int32} {pb : Prop} {mi : Int32} {ti : Int32} (h : ¬ (isN tw 4 ∧ isN fi (pn σ) ∧ isN se (pn σ) ∧ (ti = (-1) ∨ isN ti (tn σ)))) : Fz4 σ day tw fi se pb mi ti = (1, nI 0, σ) := if_neg h
theorem Fz4_2 {σ : ST} {day : Int32} {tw : Int32} {fi : Int32} {se : Int32} {pb : Prop} {mi : Int32} {ti : Int32} (h1 : isN tw 4 ∧ isN fi (pn σ) ∧ isN se (pn σ) ∧ (ti = (-1) ∨ isN ti (tn σ))) (h : ¬ (inr day (nI (dn σ)) (nI 999) ∧ inr mi (nI 1) (nI 60) ∧ ¬ fi = se)) : Fz4 σ day tw fi se pb mi ti = (2, nI 0, σ) := (if_pos h1).trans (if_neg h)
theorem Fz4_3 {σ : ST} {day : Int32} {tw : Int32} {fi : Int32} {se : Int32} {pb : Prop} {mi : Int32} {ti : Int32} (h1 : isN tw 4 ∧ isN fi (pn σ) ∧ isN se (pn σ) ∧ (ti = (-1) ∨ isN ti (tn σ))) (h2 : inr day (nI (dn σ)) (nI 999) ∧ inr mi (nI 1) (nI 60) ∧ ¬ fi = se) (h : ¬ (bkA σ (tk day) (tk tw) (tk fi) (tk se) mi ti ∧ bkB σ (tk day) (tk fi) (tk se) pb ti)) : Fz4 σ day tw fi se pb mi ti = (3, nI 0, σ) := (if_pos h1).trans ((if_pos h2).trans (if_neg h))
theorem Fz4_0 {σ : ST} {day : Int32} {tw : Int32} {fi : Int32} {se : Int32} {pb : Prop} {mi : Int32} {ti : Int32} (h1 : isN tw 4 ∧ isN fi (pn σ) ∧ isN se (pn σ) ∧ (ti = (-1) ∨ isN ti (tn σ))) (h2 : inr day (nI (dn σ)) (nI 999) ∧ inr mi (nI 1) (nI 60) ∧ ¬ fi = se) (h3 : bkA σ (tk day) (tk tw) (tk fi) (tk se) mi ti ∧ bkB σ (tk day) (tk fi) (tk se) pb ti) : Fz4 σ day tw fi se pb mi ti = (0, nI (mn σ (tk day)), bkS σ (tk day) (tk tw) (tk fi) (tk se) pb mi ti) := (if_pos h1).trans ((if_pos h2).trans (if_pos h3))
noncomputable def Fz5 (σ : ST) (day : Int32) (ma : Int32) : Nat × Int32 × ST := @ite _ (isN day 1000 ∧ isN ma (mn σ (tk day))) (Classical.propDecidable _) (@ite _ (σ 22 (tk day) = nI 0) (Classical.propDecidable _) ((0, nI (mn σ (tk day) - 1), stS σ (tk day) (tk ma))) (2, nI 0, σ)) (1, nI 0, σ)
theorem Fz5_1 {σ : ST} {day : Int32} {ma : Int32} (h : ¬ (isN day 1000 ∧ isN ma (mn σ (tk day)))) : Fz5 σ day ma = (1, nI 0, σ) := if_neg h
theorem Fz5_2 {σ : ST} {day : Int32} {ma : Int32} (h1 : isN day 1000 ∧ isN ma (mn σ (tk day))) (h : ¬ (σ 22 (tk day) = nI 0)) : Fz5 σ day ma = (2, nI 0, σ) := (if_pos h1).trans (if_neg h)
theorem Fz5_0 {σ : ST} {day : Int32} {ma : Int32} (h1 : isN day 1000 ∧ isN ma (mn σ (tk day))) (h2 : σ 22 (tk day) = nI 0) : Fz5 σ day ma = (0, nI (mn σ (tk day) - 1), stS σ (tk day) (tk ma)) := (if_pos h1).trans (if_pos h2)
noncomputable def Fz6 (σ : ST) (ma : Int32) : Nat × Int32 × ST := @ite _ (isN ma (mn σ (dn σ))) (Classical.propDecidable _) (@ite _ (σ 22 (dn σ) = nI 0) (Classical.propDecidable _) ((0, σ 19 (36 * dn σ + 6 * tk ma + 5), ups σ 19 (36 * dn σ + 6 * tk ma + 5) (nI 1))) (2, nI 0, σ)) (1, nI 0, σ)
theorem Fz6_1 {σ : ST} {ma : Int32} (h : ¬ (isN ma (mn σ (dn σ)))) : Fz6 σ ma = (1, nI 0, σ) := if_neg h
theorem Fz6_2 {σ : ST} {ma : Int32} (h1 : isN ma (mn σ (dn σ))) (h : ¬ (σ 22 (dn σ) = nI 0)) : Fz6 σ ma = (2, nI 0, σ) := (if_pos h1).trans (if_neg h)
theorem Fz6_0 {σ : ST} {ma : Int32} (h1 : isN ma (mn σ (dn σ))) (h2 : σ 22 (dn σ) = nI 0) : Fz6 σ ma = (0, σ 19 (36 * dn σ + 6 * tk ma + 5), ups σ 19 (36 * dn σ + 6 * tk ma + 5) (nI 1)) := (if_pos h1).trans (if_pos h2)
noncomputable def Fz7 (σ : ST) (w : Int32) (days : Int32) : Nat × Int32 × ST := @ite _ (isN w (pn σ)) (Classical.propDecidable _) (@ite _ (inr days (nI 1) (nI 200)) (Classical.propDecidable _) ((0, hrS σ (tk w) (nI (dn σ) + days) 6 (tk w), hrS σ (tk w) (nI (dn σ) + days))) (2, nI 0, σ)) (1, nI 0, σ)
theorem Fz7_1 {σ : ST} {w : Int32} {days : Int32} (h : ¬ (isN w (pn σ))) : Fz7 σ w days = (1, nI 0, σ) := if_neg h
theorem Fz7_2 {σ : ST} {w : Int32} {days : Int32} (h1 : isN w (pn σ)) (h : ¬ (inr days (nI 1) (nI 200))) : Fz7 σ w days = (2, nI 0, σ) := (if_pos h1).trans (if_neg h)
theorem Fz7_0 {σ : ST} {w : Int32} {days : Int32} (h1 : isN w (pn σ)) (h2 : inr days (nI 1) (nI 200)) : Fz7 σ w days = (0, hrS σ (tk w) (nI (dn σ) + days) 6 (tk w), hrS σ (tk w) (nI (dn σ) + days)) := (if_pos h1).trans (if_pos h2)
noncomputable def Fz8 (σ : ST) (w : Int32) : Nat × Int32 × ST := @ite _ (isN w (pn σ)) (Classical.propDecidable _) ((0, hdS σ (tk w) 6 (tk w), hdS σ (tk w))) (1, nI 0, σ)
theorem Fz8_1 {σ : ST} {w : Int32} (h : ¬ (isN w (pn σ))) : Fz8 σ w = (1, nI 0, σ) := if_neg h
theorem Fz8_0 {σ : ST} {w : Int32} (h1 : isN w (pn σ)) : Fz8 σ w = (0, hdS σ (tk w) 6 (tk w), hdS σ (tk w)) := if_pos h1
noncomputable def Fz9 (σ : ST) : Nat × Int32 × ST := @ite _ (mOK σ) (Classical.propDecidable _) ((0, nI (meK σ), meS σ)) (1, nI 0, σ)
theorem Fz9_1 {σ : ST} (h : ¬ (mOK σ)) : Fz9 σ = (1, nI 0, σ) := if_neg h
theorem Fz9_0 {σ : ST} (h1 : mOK σ) : Fz9 σ = (0, nI (meK σ), meS σ) := if_pos h1
noncomputable def Fz10 (σ : ST) : Nat × Int32 × ST := @ite _ (pOK σ) (Classical.propDecidable _) ((0, tkS σ, plS σ)) (1, nI 0, σ)
theorem Fz10_1 {σ : ST} (h : ¬ (pOK σ)) : Fz10 σ = (1, nI 0, σ) := if_neg h
theorem Fz10_0 {σ : ST} (h1 : pOK σ) : Fz10 σ = (0, tkS σ, plS σ) := if_pos h1
noncomputable def Fz11 (σ : ST) (tw : Int32) (w : Int32) (sl : Int32) : Nat × Int32 × ST := @ite _ (isN tw 4 ∧ isN w (pn σ)) (Classical.propDecidable _) (@ite _ (isN sl 10) (Classical.propDecidable _) (@ite _ (¬ nI (dn σ) < σ 6 (tk w) ∧ σ 10 (tk w) = nI 0) (Classical.propDecidable _) ((0, prS σ (tk tw) (tk w) sl 4 (10 * tk tw + tk w), prS σ (tk tw) (tk w) sl)) (3, nI 0, σ)) (2, nI 0, σ)) (1, nI 0, σ)
theorem Fz11_1 {σ : ST} {tw : Int32} {w : Int32} {sl : Int32} (h : ¬ (isN tw 4 ∧ isN w (pn σ))) : Fz11 σ tw w sl = (1, nI 0, σ) := if_neg h
theorem Fz11_2 {σ : ST} {tw : Int32} {w : Int32} {sl : Int32} (h1 : isN tw 4 ∧ isN w (pn σ)) (h : ¬ (isN sl 10)) : Fz11 σ tw w sl = (2, nI 0, σ) := (if_pos h1).trans (if_neg h)
theorem Fz11_3 {σ : ST} {tw : Int32} {w : Int32} {sl : Int32} (h1 : isN tw 4 ∧ isN w (pn σ)) (h2 : isN sl 10) (h : ¬ (¬ nI (dn σ) < σ 6 (tk w) ∧ σ 10 (tk w) = nI 0)) : Fz11 σ tw w sl = (3, nI 0, σ) := (if_pos h1).trans ((if_pos h2).trans (if_neg h))
theorem Fz11_0 {σ : ST} {tw : Int32} {w : Int32} {sl : Int32} (h1 : isN tw 4 ∧ isN w (pn σ)) (h2 : isN sl 10) (h3 : ¬ nI (dn σ) < σ 6 (tk w) ∧ σ 10 (tk w) = nI 0) : Fz11 σ tw w sl = (0, prS σ (tk tw) (tk w) sl 4 (10 * tk tw + tk w), prS σ (tk tw) (tk w) sl) := (if_pos h1).trans ((if_pos h2).trans (if_pos h3))
noncomputable def Fz12 (σ : ST) : Nat × Int32 × ST := @ite _ (dn σ < 999) (Classical.propDecidable _) ((0, nI (dn σ + 1), psS σ)) (1, nI 0, σ)
theorem Fz12_1 {σ : ST} (h : ¬ (dn σ < 999)) : Fz12 σ = (1, nI 0, σ) := if_neg h
theorem Fz12_0 {σ : ST} (h1 : dn σ < 999) : Fz12 σ = (0, nI (dn σ + 1), psS σ) := if_pos h1
noncomputable def Fz14 (σ : ST) (w : Int32) (what : Int32) : Nat × Int32 × ST := @ite _ (isN w (pn σ)) (Classical.propDecidable _) (@ite _ (isN what 7) (Classical.propDecidable _) ((0, owv σ (tk w) (tk what), σ)) (2, nI 0, σ)) (1, nI 0, σ)
theorem Fz14_1 {σ : ST} {w : Int32} {what : Int32} (h : ¬ (isN w (pn σ))) : Fz14 σ w what = (1, nI 0, σ) := if_neg h
theorem Fz14_2 {σ : ST} {w : Int32} {what : Int32} (h1 : isN w (pn σ)) (h : ¬ (isN what 7)) : Fz14 σ w what = (2, nI 0, σ) := (if_pos h1).trans (if_neg h)
theorem Fz14_0 {σ : ST} {w : Int32} {what : Int32} (h1 : isN w (pn σ)) (h2 : isN what 7) : Fz14 σ w what = (0, owv σ (tk w) (tk what), σ) := (if_pos h1).trans (if_pos h2)
noncomputable def Fz15 (σ : ST) (tw : Int32) (w : Int32) : Nat × Int32 × ST := @ite _ (isN tw 4 ∧ isN w (pn σ)) (Classical.propDecidable _) ((0, σ 4 (10 * tk tw + tk w), σ)) (1, nI 0, σ)
theorem Fz15_1 {σ : ST} {tw : Int32} {w : Int32} (h : ¬ (isN tw 4 ∧ isN w (pn σ))) : Fz15 σ tw w = (1, nI 0, σ) := if_neg h
theorem Fz15_0 {σ : ST} {tw : Int32} {w : Int32} (h1 : isN tw 4 ∧ isN w (pn σ)) : Fz15 σ tw w = (0, σ 4 (10 * tk tw + tk w), σ) := if_pos h1
noncomputable def Fz16 (σ : ST) (tw : Int32) (w : Int32) : Nat × Int32 × ST := @ite _ (isN tw 4 ∧ isN w (pn σ)) (Classical.propDecidable _) ((0, wrt σ (tk tw) (tk w), σ)) (1, nI 0, σ)
theorem Fz16_1 {σ : ST} {tw : Int32} {w : Int32} (h : ¬ (isN tw 4 ∧ isN w (pn σ))) : Fz16 σ tw w = (1, nI 0, σ) := if_neg h
theorem Fz16_0 {σ : ST} {tw : Int32} {w : Int32} (h1 : isN tw 4 ∧ isN w (pn σ)) : Fz16 σ tw w = (0, wrt σ (tk tw) (tk w), σ) := if_pos h1
noncomputable def Fz17 (σ : ST) (its : Int32) (what : Int32) : Nat × Int32 × ST := @ite _ (isN its 1000 ∧ isN what 4) (Classical.propDecidable _) ((0, ocv σ (tk its) (tk what), σ)) (1, nI 0, σ)
theorem Fz17_1 {σ : ST} {its : Int32} {what : Int32} (h : ¬ (isN its 1000 ∧ isN what 4)) : Fz17 σ its what = (1, nI 0, σ) := if_neg h
theorem Fz17_0 {σ : ST} {its : Int32} {what : Int32} (h1 : isN its 1000 ∧ isN what 4) : Fz17 σ its what = (0, ocv σ (tk its) (tk what), σ) := if_pos h1
noncomputable def Fz18 (σ : ST) (day : Int32) (ma : Int32) (what : Int32) : Nat × Int32 × ST := @ite _ (isN day 1000 ∧ isN ma (mn σ (tk day))) (Classical.propDecidable _) (@ite _ (isN what 6) (Classical.propDecidable _) ((0, omv σ (tk day) (tk ma) (tk what), σ)) (2, nI 0, σ)) (1, nI 0, σ)
theorem Fz18_1 {σ : ST} {day : Int32} {ma : Int32} {what : Int32} (h : ¬ (isN day 1000 ∧ isN ma (mn σ (tk day)))) : Fz18 σ day ma what = (1, nI 0, σ) := if_neg h
theorem Fz18_2 {σ : ST} {day : Int32} {ma : Int32} {what : Int32} (h1 : isN day 1000 ∧ isN ma (mn σ (tk day))) (h : ¬ (isN what 6)) : Fz18 σ day ma what = (2, nI 0, σ) := (if_pos h1).trans (if_neg h)
theorem Fz18_0 {σ : ST} {day : Int32} {ma : Int32} {what : Int32} (h1 : isN day 1000 ∧ isN ma (mn σ (tk day))) (h2 : isN what 6) : Fz18 σ day ma what = (0, omv σ (tk day) (tk ma) (tk what), σ) := (if_pos h1).trans (if_pos h2)
noncomputable def Fz19 (σ : ST) (t : Int32) (at_ : Int32) (pd : Prop) : Nat × Int32 × ST := @ite _ (isN t (tn σ) ∧ isN at_ (lnO σ (tk t))) (Classical.propDecidable _) ((0, @ite _ pd (Classical.propDecidable _) (σ 16 (2000 * tk t + tk at_)) (σ 15 (2000 * tk t + tk at_)), σ)) (1, nI 0, σ)
theorem Fz19_1 {σ : ST} {t : Int32} {at_ : Int32} {pd : Prop} (h : ¬ (isN t (tn σ) ∧ isN at_ (lnO σ (tk t)))) : Fz19 σ t at_ pd = (1, nI 0, σ) := if_neg h
theorem Fz19_0 {σ : ST} {t : Int32} {at_ : Int32} {pd : Prop} (h1 : isN t (tn σ) ∧ isN at_ (lnO σ (tk t))) : Fz19 σ t at_ pd = (0, @ite _ pd (Classical.propDecidable _) (σ 16 (2000 * tk t + tk at_)) (σ 15 (2000 * tk t + tk at_)), σ) := if_pos h1
noncomputable def Fz20 (σ : ST) (t : Int32) : Nat × Int32 × ST := @ite _ (isN t (tn σ)) (Classical.propDecidable _) ((0, chO σ (tk t), σ)) (1, nI 0, σ)
theorem Fz20_1 {σ : ST} {t : Int32} (h : ¬ (isN t (tn σ))) : Fz20 σ t = (1, nI 0, σ) := if_neg h
theorem Fz20_0 {σ : ST} {t : Int32} (h1 : isN t (tn σ)) : Fz20 σ t = (0, chO σ (tk t), σ) := if_pos h1
noncomputable def Fz21 (σ : ST) (w : Int32) (o : Int32) : Nat × Int32 × ST := @ite _ (isN w (pn σ) ∧ isN o (pn σ)) (Classical.propDecidable _) ((0, σ 13 (10 * tk w + tk o), σ)) (1, nI 0, σ)
theorem Fz21_1 {σ : ST} {w : Int32} {o : Int32} (h : ¬ (isN w (pn σ) ∧ isN o (pn σ))) : Fz21 σ w o = (1, nI 0, σ) := if_neg h
theorem Fz21_0 {σ : ST} {w : Int32} {o : Int32} (h1 : isN w (pn σ) ∧ isN o (pn σ)) : Fz21 σ w o = (0, σ 13 (10 * tk w + tk o), σ) := if_pos h1
noncomputable def Fz22 (σ : ST) (w : Int32) (o : Int32) : Nat × Int32 × ST := @ite _ (isN w (pn σ) ∧ isN o (pn σ)) (Classical.propDecidable _) ((0, σ 13 (10 * tk w + tk o), σ)) (1, nI 0, σ)
theorem Fz22_1 {σ : ST} {w : Int32} {o : Int32} (h : ¬ (isN w (pn σ) ∧ isN o (pn σ))) : Fz22 σ w o = (1, nI 0, σ) := if_neg h
theorem Fz22_0 {σ : ST} {w : Int32} {o : Int32} (h1 : isN w (pn σ) ∧ isN o (pn σ)) : Fz22 σ w o = (0, σ 13 (10 * tk w + tk o), σ) := if_pos h1
noncomputable def Fz23 (σ : ST) (t : Int32) : Nat × Int32 × ST := @ite _ (isN t 4) (Classical.propDecidable _) ((0, σ 23 (tk t), σ)) (1, nI 0, σ)
theorem Fz23_1 {σ : ST} {t : Int32} (h : ¬ (isN t 4)) : Fz23 σ t = (1, nI 0, σ) := if_neg h
theorem Fz23_0 {σ : ST} {t : Int32} (h1 : isN t 4) : Fz23 σ t = (0, σ 23 (tk t), σ) := if_pos h1
noncomputable def Fz24 (σ : ST) : Nat × Int32 × ST := @ite _ (mOK σ) (Classical.propDecidable _) ((0, bS σ (twn σ (dn σ)), σ)) (1, nI 0, σ)
theorem Fz24_1 {σ : ST} (h : ¬ (mOK σ)) : Fz24 σ = (1, nI 0, σ) := if_neg h
theorem Fz24_0 {σ : ST} (h1 : mOK σ) : Fz24 σ = (0, bS σ (twn σ (dn σ)), σ) := if_pos h1
noncomputable def Fz25 (σ : ST) : Nat × Int32 × ST := @ite _ (mOK σ) (Classical.propDecidable _) ((0, bS σ (twn σ (dn σ)), σ)) (1, nI 0, σ)
theorem Fz25_1 {σ : ST} (h : ¬ (mOK σ)) : Fz25 σ = (1, nI 0, σ) := if_neg h
theorem Fz25_0 {σ : ST} (h1 : mOK σ) : Fz25 σ = (0, bS σ (twn σ (dn σ)), σ) := if_pos h1
theorem mF0 {d b : Nat} {K : KM} {I : IM} {R : RM} {Q : QT} {n0 : Nat} {σ : ST} {sk : Int32} {mi : Int32} {ro : Int32} (hd : 2 ≤ d) (hM : MK K R) (hm : mv I = σ) (hV : IV n0 σ) (hn : n0 < 512) (q : ∀ I', FrM I I' → I' MO 28 = nI (Fz0 σ sk mi ro).1 → mv I' = (Fz0 σ sk mi ro).2.2 → ∀ v, ((Fz0 σ sk mi ro).1 = 0 → v = (Fz0 σ sk mi ro).2.1) → Q (.inl (some (pI v))) K I' R) : Mw d b N_X6_wrestler 0 [some (pR (some MO)), some (pI sk), some (pI mi), some (pI ro)] [] K I R Q := by
  exact m_wrestler hd hM hm hV (fun h I9 a b c => by rw [Fz0_1 h] at q; exact q I9 a b c _ (fun h => absurd h (Nat.succ_ne_zero _))) (fun h1 h I9 a b c => by rw [Fz0_2 h1 h] at q; exact q I9 a b c _ (fun h => absurd h (Nat.succ_ne_zero _))) (fun h1 h2 I9 a b c v hv => by rw [Fz0_0 h1 h2] at q; exact q I9 a b c v (fun _ => hv))
theorem mF1 {d b : Nat} {K : KM} {I : IM} {R : RM} {Q : QT} {n0 : Nat} {σ : ST} (hd : 2 ≤ d) (hM : MK K R) (hm : mv I = σ) (hV : IV n0 σ) (hn : n0 < 512) (q : ∀ I', FrM I I' → I' MO 28 = nI (Fz1 σ).1 → mv I' = (Fz1 σ).2.2 → ∀ v, ((Fz1 σ).1 = 0 → v = (Fz1 σ).2.1) → Q (.inl (some (pI v))) K I' R) : Mw d b N_X6_title 0 [some (pR (some MO))] [] K I R Q := by
  exact m_title hd hM hm hV (fun h I9 a b c => by rw [Fz1_1 h] at q; exact q I9 a b c _ (fun h => absurd h (Nat.succ_ne_zero _))) (fun h1 I9 a b c v hv => by rw [Fz1_0 h1] at q; exact q I9 a b c v (fun _ => hv))
theorem mF2 {d b : Nat} {K : KM} {I : IM} {R : RM} {Q : QT} {n0 : Nat} {σ : ST} {w : Int32} {o : Int32} {un : Int32} (hd : 2 ≤ d) (hM : MK K R) (hm : mv I = σ) (hV : IV n0 σ) (hn : n0 < 512) (q : ∀ I', FrM I I' → I' MO 28 = nI (Fz2 σ w o un).1 → mv I' = (Fz2 σ w o un).2.2 → ∀ v, ((Fz2 σ w o un).1 = 0 → v = (Fz2 σ w o un).2.1) → Q (.inl (some (pI v))) K I' R) : Mw d b N_X6_clause 0 [some (pR (some MO)), some (pI w), some (pI o), some (pI un), none] [] K I R Q := by
  have hpp := hV.1.2
  have htt := hV.2.1.2
  have hdd := hV.2.2.1.2
  exact m_clause hd hM hm hV (fun h I9 a b c => by rw [Fz2_1 h] at q; exact q I9 a b c _ (fun h => absurd h (Nat.succ_ne_zero _))) (fun h1 h I9 a b c => by rw [Fz2_2 h1 h] at q; exact q I9 a b c _ (fun h => absurd h (Nat.succ_ne_zero _))) (fun x y hx hy ex ey h2 I9 a b c v hv => by
    subst ex ey
    rw [Fz2_0 ⟨⟨x, hx, rfl⟩, ⟨y, hy, rfl⟩⟩ h2, tk_n (show x < 2147483648 by omega), tk_n (show y < 2147483648 by omega)] at q
    exact q I9 a b c v (fun _ => hv))
theorem mF3 {d b : Nat} {K : KM} {I : IM} {R : RM} {Q : QT} {n0 : Nat} {σ : ST} {w : Int32} {day : Int32} (hd : 2 ≤ d) (hM : MK K R) (hm : mv I = σ) (hV : IV n0 σ) (hn : n0 < 512) (q : ∀ I', FrM I I' → I' MO 28 = nI (Fz3 σ w day).1 → mv I' = (Fz3 σ w day).2.2 → ∀ v, ((Fz3 σ w day).1 = 0 → v = (Fz3 σ w day).2.1) → Q (.inl (some (pI v))) K I' R) : Mw d b N_X6_protect 0 [some (pR (some MO)), some (pI w), some (pI day), none] [] K I R Q := by
  have hpp := hV.1.2
  have htt := hV.2.1.2
  have hdd := hV.2.2.1.2
  exact m_protect hd hM hm hV (fun h I9 a b c => by rw [Fz3_1 h] at q; exact q I9 a b c _ (fun h => absurd h (Nat.succ_ne_zero _))) (fun h1 h I9 a b c => by rw [Fz3_2 h1 h] at q; exact q I9 a b c _ (fun h => absurd h (Nat.succ_ne_zero _))) (fun x hx ex h2 I9 a b c v hv => by
    subst ex
    rw [Fz3_0 ⟨x, hx, rfl⟩ h2, tk_n (show x < 2147483648 by omega)] at q
    exact q I9 a b c v (fun _ => hv))
theorem mF4 {d b : Nat} {K : KM} {I : IM} {R : RM} {Q : QT} {n0 : Nat} {σ : ST} {day : Int32} {tw : Int32} {fi : Int32} {se : Int32} {pb : Prop} {mi : Int32} {ti : Int32} (hd : 3 ≤ d) (hM : MK K R) (hm : mv I = σ) (hV : IV n0 σ) (hn : n0 < 512) (q : ∀ I', FrM I I' → I' MO 28 = nI (Fz4 σ day tw fi se pb mi ti).1 → mv I' = (Fz4 σ day tw fi se pb mi ti).2.2 → ∀ v, ((Fz4 σ day tw fi se pb mi ti).1 = 0 → v = (Fz4 σ day tw fi se pb mi ti).2.1) → Q (.inl (some (pI v))) K I' R) : Mw d b N_X6_book 0 [some (pR (some MO)), some (pI day), some (pI tw), some (pI fi), some (pI se), some (pI (bI pb)), some (pI mi), some (pI ti), none, none, none, none] [] K I R Q := by
  have hpp := hV.1.2
  have htt := hV.2.1.2
  have hdd := hV.2.2.1.2
  by_cases h1 : isN tw 4 ∧ isN fi (pn σ) ∧ isN se (pn σ) ∧ (ti = (-1) ∨ isN ti (tn σ))
  rotate_left
  · exact m_book_o hd hM hm hV h1 (fun h I9 a b c => by rw [Fz4_1 h] at q; exact q I9 a b c _ (fun h => absurd h (Nat.succ_ne_zero _))) (fun h9 _ I9 a b c => absurd h9 h1) (fun h9 _ _ I9 a b c => absurd h9 h1)
  obtain ⟨⟨t, ht, et⟩, ⟨f, hf, ef⟩, ⟨s, hs, es⟩, hti⟩ := id h1
  subst et ef es
  by_cases h2 : inr day (nI (dn σ)) (nI 999) ∧ inr mi (nI 1) (nI 60) ∧ ¬ nI f = nI s
  rotate_left
  · have hno : ¬ (inr day (nI (dn σ)) (nI 999) ∧ inr mi (nI 1) (nI 60) ∧ ¬ f = s) := fun h9 => h2 ⟨h9.1, h9.2.1, fun e => h9.2.2 (nI_inj e (by omega) (by omega))⟩
    exact m_book_m hd hM hm hV ht hf hs hti hno (fun h9 _ _ _ _ => absurd ht h9) (fun _ h9 I9 a b c => by rw [Fz4_2 h1 h2] at q; exact q I9 a b c _ (fun h => absurd h (Nat.succ_ne_zero _))) (fun _ h9 _ _ _ _ _ => absurd h9 hno)
  obtain ⟨hday, hmi, hfs⟩ := id h2
  obtain ⟨x, hx, ex⟩ := (isN_i (x := day) (n := 1000) (by decide)).mpr (by
    have a1 := Int32.le_iff_toInt_le.mp hday.1
    have a2 := Int32.le_iff_toInt_le.mp hday.2
    rw [nI_toInt (by omega)] at a1 a2
    omega)
  subst ex
  exact m_book_i hd hM hm hV ht hf hs hti hx hday hmi (fun e => hfs (by rw [e])) (by omega) (fun h9 _ _ _ _ => absurd ht h9) (fun _ h9 _ _ _ _ => absurd ht h9) (fun _ _ h3 I9 a b c => by rw [Fz4_3 h1 h2 (by rw [tk_n (show x < 2147483648 by omega), tk_n (show t < 2147483648 by omega), tk_n (show f < 2147483648 by omega), tk_n (show s < 2147483648 by omega)]; exact h3)] at q; exact q I9 a b c _ (fun h => absurd h (Nat.succ_ne_zero _))) (fun hA hB I9 a b c v hv => by rw [Fz4_0 h1 h2 (by rw [tk_n (show x < 2147483648 by omega), tk_n (show t < 2147483648 by omega), tk_n (show f < 2147483648 by omega), tk_n (show s < 2147483648 by omega)]; exact ⟨hA, hB⟩), tk_n (show x < 2147483648 by omega), tk_n (show t < 2147483648 by omega), tk_n (show f < 2147483648 by omega), tk_n (show s < 2147483648 by omega)] at q; exact q I9 a b c v (fun _ => hv))
theorem mF5 {d b : Nat} {K : KM} {I : IM} {R : RM} {Q : QT} {n0 : Nat} {σ : ST} {day : Int32} {ma : Int32} (hd : 2 ≤ d) (hM : MK K R) (hm : mv I = σ) (hV : IV n0 σ) (hn : n0 < 512) (q : ∀ I', FrM I I' → I' MO 28 = nI (Fz5 σ day ma).1 → mv I' = (Fz5 σ day ma).2.2 → ∀ v, ((Fz5 σ day ma).1 = 0 → v = (Fz5 σ day ma).2.1) → Q (.inl (some (pI v))) K I' R) : Mw d b N_X6_strike 0 [some (pR (some MO)), some (pI day), some (pI ma), none] [] K I R Q := by
  have hpp := hV.1.2
  have htt := hV.2.1.2
  have hdd := hV.2.2.1.2
  by_cases hx : isN day 1000
  rotate_left
  · exact m_strike_o hd hM hm hV hx (fun _ I9 a b c => by rw [Fz5_1 (fun h => hx h.1)] at q; exact q I9 a b c _ (fun h => absurd h (Nat.succ_ne_zero _))) (fun h9 _ _ _ _ _ => h9.elim)
  obtain ⟨x, hx9, ex⟩ := hx
  subst ex
  have etx := tk_n (n := x) (by omega)
  have h6 := (hV.2.2.2.2.2.1 x hx9).2.1
  exact m_strike_i hd hM hm hV hx9 (fun h I9 a b c => by rw [Fz5_1 (fun h9 => h (by rw [etx] at h9; exact h9.2))] at q; exact q I9 a b c _ (fun h => absurd h (Nat.succ_ne_zero _))) (fun h1 h I9 a b c => by rw [Fz5_2 ⟨⟨x, hx9, rfl⟩, by rw [etx]; exact h1⟩ (by rw [etx]; exact fun h9 => h ⟨h1, h9⟩)] at q; exact q I9 a b c _ (fun h => absurd h (Nat.succ_ne_zero _))) (fun m hm9 em h22 I9 a b c v hv => by
    subst em
    rw [Fz5_0 ⟨⟨x, hx9, rfl⟩, by rw [etx]; exact ⟨m, hm9, rfl⟩⟩ (by rw [etx]; exact h22), etx, tk_n (show m < 2147483648 by omega)] at q
    exact q I9 a b c v (fun _ => hv))
theorem mF6 {d b : Nat} {K : KM} {I : IM} {R : RM} {Q : QT} {n0 : Nat} {σ : ST} {ma : Int32} (hd : 2 ≤ d) (hM : MK K R) (hm : mv I = σ) (hV : IV n0 σ) (hn : n0 < 512) (q : ∀ I', FrM I I' → I' MO 28 = nI (Fz6 σ ma).1 → mv I' = (Fz6 σ ma).2.2 → ∀ v, ((Fz6 σ ma).1 = 0 → v = (Fz6 σ ma).2.1) → Q (.inl (some (pI v))) K I' R) : Mw d b N_X6_shoot 0 [some (pR (some MO)), some (pI ma), none, none] [] K I R Q := by
  have hpp := hV.1.2
  have htt := hV.2.1.2
  have hdd := hV.2.2.1.2
  have h6 := (hV.2.2.2.2.2.1 (dn σ) (by omega)).2.1
  exact m_shoot hd hM hm hV (fun h I9 a b c => by rw [Fz6_1 h] at q; exact q I9 a b c _ (fun h => absurd h (Nat.succ_ne_zero _))) (fun h1 h I9 a b c => by rw [Fz6_2 h1 (fun h9 => h ⟨h1, h9⟩)] at q; exact q I9 a b c _ (fun h => absurd h (Nat.succ_ne_zero _))) (fun m hm9 em h22 I9 a b c v hv => by
    subst em
    rw [Fz6_0 ⟨m, hm9, rfl⟩ h22, tk_n (show m < 2147483648 by omega)] at q
    exact q I9 a b c v (fun _ => hv))
theorem mF7 {d b : Nat} {K : KM} {I : IM} {R : RM} {Q : QT} {n0 : Nat} {σ : ST} {w : Int32} {days : Int32} (hd : 2 ≤ d) (hM : MK K R) (hm : mv I = σ) (hV : IV n0 σ) (hn : n0 < 512) (q : ∀ I', FrM I I' → I' MO 28 = nI (Fz7 σ w days).1 → mv I' = (Fz7 σ w days).2.2 → ∀ v, ((Fz7 σ w days).1 = 0 → v = (Fz7 σ w days).2.1) → Q (.inl (some (pI v))) K I' R) : Mw d b N_X6_hurt 0 [some (pR (some MO)), some (pI w), some (pI days)] [] K I R Q := by
  have hpp := hV.1.2
  have htt := hV.2.1.2
  have hdd := hV.2.2.1.2
  exact m_hurt hd hM hm hV hn (fun h I9 a b c => by rw [Fz7_1 h] at q; exact q I9 a b c _ (fun h => absurd h (Nat.succ_ne_zero _))) (fun h1 h I9 a b c => by rw [Fz7_2 h1 h] at q; exact q I9 a b c _ (fun h => absurd h (Nat.succ_ne_zero _))) (fun x hx ex h2 I9 a b c v hv => by
    subst ex
    rw [Fz7_0 ⟨x, hx, rfl⟩ h2, tk_n (show x < 2147483648 by omega)] at q
    exact q I9 a b c v (fun _ => hv))
theorem mF8 {d b : Nat} {K : KM} {I : IM} {R : RM} {Q : QT} {n0 : Nat} {σ : ST} {w : Int32} (hd : 2 ≤ d) (hM : MK K R) (hm : mv I = σ) (hV : IV n0 σ) (hn : n0 < 512) (q : ∀ I', FrM I I' → I' MO 28 = nI (Fz8 σ w).1 → mv I' = (Fz8 σ w).2.2 → ∀ v, ((Fz8 σ w).1 = 0 → v = (Fz8 σ w).2.1) → Q (.inl (some (pI v))) K I' R) : Mw d b N_X6_head 0 [some (pR (some MO)), some (pI w)] [] K I R Q := by
  have hpp := hV.1.2
  have htt := hV.2.1.2
  have hdd := hV.2.2.1.2
  exact m_head hd hM hm hV hn (fun h I9 a b c => by rw [Fz8_1 h] at q; exact q I9 a b c _ (fun h => absurd h (Nat.succ_ne_zero _))) (fun x hx ex I9 a b c v hv => by
    subst ex
    rw [Fz8_0 ⟨x, hx, rfl⟩, tk_n (show x < 2147483648 by omega)] at q
    exact q I9 a b c v (fun _ => hv))
theorem mF9 {d b : Nat} {K : KM} {I : IM} {R : RM} {Q : QT} {n0 : Nat} {σ : ST} (hd : 6 ≤ d) (hM : MK K R) (hm : mv I = σ) (hV : IV n0 σ) (hn : n0 < 512) (q : ∀ I', FrM I I' → I' MO 28 = nI (Fz9 σ).1 → mv I' = (Fz9 σ).2.2 → ∀ v, ((Fz9 σ).1 = 0 → v = (Fz9 σ).2.1) → Q (.inl (some (pI v))) K I' R) : Mw d b N_X6_mend 0 [some (pR (some MO)), none, none, none] [] K I R Q := by
  exact m_mend hd hM hm hV (fun h I9 a b c => by rw [Fz9_1 h] at q; exact q I9 a b c _ (fun h => absurd h (Nat.succ_ne_zero _))) (fun h1 I9 a b c v hv => by rw [Fz9_0 h1] at q; exact q I9 a b c v (fun _ => hv))
theorem mF10 {d b : Nat} {K : KM} {I : IM} {R : RM} {Q : QT} {n0 : Nat} {σ : ST} (hd : 5 ≤ d) (hM : MK K R) (hm : mv I = σ) (hV : IV n0 σ) (hn : n0 < 512) (q : ∀ I', FrM I I' → I' MO 28 = nI (Fz10 σ).1 → mv I' = (Fz10 σ).2.2 → ∀ v, ((Fz10 σ).1 = 0 → v = (Fz10 σ).2.1) → Q (.inl (some (pI v))) K I' R) : Mw d b N_X6_play 0 [some (pR (some MO)), none, none, none] [] K I R Q := by
  exact m_play hd hM hm hV hn (fun h I9 a b c => by rw [Fz10_1 h] at q; exact q I9 a b c _ (fun h => absurd h (Nat.succ_ne_zero _))) (fun h1 I9 a b c v hv => by rw [Fz10_0 h1] at q; exact q I9 a b c v (fun _ => hv))
theorem mF12 {d b : Nat} {K : KM} {I : IM} {R : RM} {Q : QT} {n0 : Nat} {σ : ST} (hd : 2 ≤ d) (hM : MK K R) (hm : mv I = σ) (hV : IV n0 σ) (hn : n0 < 512) (q : ∀ I', FrM I I' → I' MO 28 = nI (Fz12 σ).1 → mv I' = (Fz12 σ).2.2 → ∀ v, ((Fz12 σ).1 = 0 → v = (Fz12 σ).2.1) → Q (.inl (some (pI v))) K I' R) : Mw d b N_X6_pass 0 [some (pR (some MO)), none] [] K I R Q := by
  exact m_pass hd hM hm hV hn (fun h I9 a b c => by rw [Fz12_1 h] at q; exact q I9 a b c _ (fun h => absurd h (Nat.succ_ne_zero _))) (fun h1 I9 a b c v hv => by rw [Fz12_0 h1] at q; exact q I9 a b c v (fun _ => hv))
theorem mF24 {d b : Nat} {K : KM} {I : IM} {R : RM} {Q : QT} {n0 : Nat} {σ : ST} (hd : 6 ≤ d) (hM : MK K R) (hm : mv I = σ) (hV : IV n0 σ) (hn : n0 < 512) (q : ∀ I', FrM I I' → I' MO 28 = nI (Fz24 σ).1 → mv I' = (Fz24 σ).2.2 → ∀ v, ((Fz24 σ).1 = 0 → v = (Fz24 σ).2.1) → Q (.inl (some (pI v))) K I' R) : Mw d b N_X6_mending 0 [some (pR (some MO))] [] K I R Q := by
  exact m_mending hd hM hm hV (fun h I9 a b c => by rw [Fz24_1 h] at q; exact q I9 a b c _ (fun h => absurd h (Nat.succ_ne_zero _))) (fun h1 I9 a b c v hv => by rw [Fz24_0 h1] at q; exact q I9 a b c v (fun _ => hv))
theorem mF25 {d b : Nat} {K : KM} {I : IM} {R : RM} {Q : QT} {n0 : Nat} {σ : ST} (hd : 7 ≤ d) (hM : MK K R) (hm : mv I = σ) (hV : IV n0 σ) (hn : n0 < 512) (q : ∀ I', FrM I I' → I' MO 28 = nI (Fz25 σ).1 → mv I' = (Fz25 σ).2.2 → ∀ v, ((Fz25 σ).1 = 0 → v = (Fz25 σ).2.1) → Q (.inl (some (pI v))) K I' R) : Mw d b N_X6_mendingAnew 0 [some (pR (some MO))] [] K I R Q := by
  exact m_mendingAnew hd hM hm hV (fun h I9 a b c => by rw [Fz25_1 h] at q; exact q I9 a b c _ (fun h => absurd h (Nat.succ_ne_zero _))) (fun h1 I9 a b c v hv => by rw [Fz25_0 h1] at q; exact q I9 a b c v (fun _ => hv))
theorem mF11 {d b : Nat} {K : KM} {I : IM} {R : RM} {Q : QT} {n0 : Nat} {σ : ST} {tw : Int32} {w : Int32} {sl : Int32} (hd : 2 ≤ d) (hM : MK K R) (hm : mv I = σ) (hV : IV n0 σ) (hn : n0 < 512) (q : ∀ I', FrM I I' → I' MO 28 = nI (Fz11 σ tw w sl).1 → mv I' = (Fz11 σ tw w sl).2.2 → ∀ v, ((Fz11 σ tw w sl).1 = 0 → v = (Fz11 σ tw w sl).2.1) → Q (.inl (some (pI v))) K I' R) : Mw d b N_X6_promo 0 [some (pR (some MO)), some (pI tw), some (pI w), some (pI sl), none, none] [] K I R Q := by
  have hpp := hV.1.2
  have htt := hV.2.1.2
  have hdd := hV.2.2.1.2
  by_cases h1 : isN tw 4 ∧ isN w (pn σ)
  rotate_left
  · exact m_promo_o hd hM hm hV h1 (fun h I9 a b c => by rw [Fz11_1 h] at q; exact q I9 a b c _ (fun h => absurd h (Nat.succ_ne_zero _))) (fun h9 _ _ _ _ _ => absurd h9 h1) (fun h9 _ _ _ _ _ _ => absurd h9 h1)
  obtain ⟨⟨t, ht, et⟩, ⟨x, hx, ex⟩⟩ := id h1
  subst et ex
  have etx := tk_n (n := x) (by omega)
  exact m_promo_i hd hM hm hV ht hx (fun h9 _ _ _ _ => absurd hx h9) (fun _ h I9 a b c => by rw [Fz11_2 h1 h] at q; exact q I9 a b c _ (fun h => absurd h (Nat.succ_ne_zero _))) (fun _ h2 h I9 a b c => by rw [Fz11_3 h1 h2 (by rw [etx]; exact h)] at q; exact q I9 a b c _ (fun h => absurd h (Nat.succ_ne_zero _))) (fun h2 h3 I9 a b c v hv => by rw [Fz11_0 h1 h2 (by rw [etx]; exact h3), etx, tk_n (show t < 2147483648 by omega)] at q; exact q I9 a b c v (fun _ => hv))
theorem mF14 {d b : Nat} {K : KM} {I : IM} {R : RM} {Q : QT} {n0 : Nat} {σ : ST} {w : Int32} {what : Int32} (hd : 2 ≤ d) (hM : MK K R) (hm : mv I = σ) (hV : IV n0 σ) (hn : n0 < 512) (q : ∀ I', FrM I I' → I' MO 28 = nI (Fz14 σ w what).1 → mv I' = (Fz14 σ w what).2.2 → ∀ v, ((Fz14 σ w what).1 = 0 → v = (Fz14 σ w what).2.1) → Q (.inl (some (pI v))) K I' R) : Mw d b N_X6_ofWrestler 0 [some (pR (some MO)), some (pI w), some (pI what)] [] K I R Q := by
  have hpp := hV.1.2
  have htt := hV.2.1.2
  have hdd := hV.2.2.1.2
  exact m_ofW hd hM hm hV (fun h I9 a b c => by rw [Fz14_1 h] at q; exact q I9 a b c _ (fun h => absurd h (Nat.succ_ne_zero _))) (fun h1 h I9 a b c => by rw [Fz14_2 h1 h] at q; exact q I9 a b c _ (fun h => absurd h (Nat.succ_ne_zero _))) (fun x k hx hk ex ek I9 a b c v hv => by
    subst ex ek
    rw [Fz14_0 ⟨x, hx, rfl⟩ ⟨k, hk, rfl⟩, tk_n (show x < 2147483648 by omega), tk_n (show k < 2147483648 by omega)] at q
    exact q I9 a b c v (fun _ => hv))
theorem mF15 {d b : Nat} {K : KM} {I : IM} {R : RM} {Q : QT} {n0 : Nat} {σ : ST} {tw : Int32} {w : Int32} (hd : 2 ≤ d) (hM : MK K R) (hm : mv I = σ) (hV : IV n0 σ) (hn : n0 < 512) (q : ∀ I', FrM I I' → I' MO 28 = nI (Fz15 σ tw w).1 → mv I' = (Fz15 σ tw w).2.2 → ∀ v, ((Fz15 σ tw w).1 = 0 → v = (Fz15 σ tw w).2.1) → Q (.inl (some (pI v))) K I' R) : Mw d b N_X6_love 0 [some (pR (some MO)), some (pI tw), some (pI w)] [] K I R Q := by
  have hpp := hV.1.2
  have htt := hV.2.1.2
  have hdd := hV.2.2.1.2
  exact m_love hd hM hm hV (fun h I9 a b c => by rw [Fz15_1 h] at q; exact q I9 a b c _ (fun h => absurd h (Nat.succ_ne_zero _))) (fun t x ht hx et ex I9 a b c v hv => by
    subst et ex
    rw [Fz15_0 ⟨⟨t, ht, rfl⟩, ⟨x, hx, rfl⟩⟩, tk_n (show t < 2147483648 by omega), tk_n (show x < 2147483648 by omega)] at q
    exact q I9 a b c v (fun _ => hv))
theorem mF16 {d b : Nat} {K : KM} {I : IM} {R : RM} {Q : QT} {n0 : Nat} {σ : ST} {tw : Int32} {w : Int32} (hd : 2 ≤ d) (hM : MK K R) (hm : mv I = σ) (hV : IV n0 σ) (hn : n0 < 512) (q : ∀ I', FrM I I' → I' MO 28 = nI (Fz16 σ tw w).1 → mv I' = (Fz16 σ tw w).2.2 → ∀ v, ((Fz16 σ tw w).1 = 0 → v = (Fz16 σ tw w).2.1) → Q (.inl (some (pI v))) K I' R) : Mw d b N_X6_worth 0 [some (pR (some MO)), some (pI tw), some (pI w)] [] K I R Q := by
  have hpp := hV.1.2
  have htt := hV.2.1.2
  have hdd := hV.2.2.1.2
  exact m_worthP hd hM hm hV (fun h I9 a b c => by rw [Fz16_1 h] at q; exact q I9 a b c _ (fun h => absurd h (Nat.succ_ne_zero _))) (fun t x ht hx et ex I9 a b c v hv => by
    subst et ex
    rw [Fz16_0 ⟨⟨t, ht, rfl⟩, ⟨x, hx, rfl⟩⟩, tk_n (show t < 2147483648 by omega), tk_n (show x < 2147483648 by omega)] at q
    exact q I9 a b c v (fun _ => hv))
theorem mF17 {d b : Nat} {K : KM} {I : IM} {R : RM} {Q : QT} {n0 : Nat} {σ : ST} {its : Int32} {what : Int32} (hd : 2 ≤ d) (hM : MK K R) (hm : mv I = σ) (hV : IV n0 σ) (hn : n0 < 512) (q : ∀ I', FrM I I' → I' MO 28 = nI (Fz17 σ its what).1 → mv I' = (Fz17 σ its what).2.2 → ∀ v, ((Fz17 σ its what).1 = 0 → v = (Fz17 σ its what).2.1) → Q (.inl (some (pI v))) K I' R) : Mw d b N_X6_ofCard 0 [some (pR (some MO)), some (pI its), some (pI what)] [] K I R Q := by
  have hpp := hV.1.2
  have htt := hV.2.1.2
  have hdd := hV.2.2.1.2
  exact m_ofC hd hM hm hV (fun h I9 a b c => by rw [Fz17_1 h] at q; exact q I9 a b c _ (fun h => absurd h (Nat.succ_ne_zero _))) (fun x k hx hk ex ek I9 a b c v hv => by
    subst ex ek
    rw [Fz17_0 ⟨⟨x, hx, rfl⟩, ⟨k, hk, rfl⟩⟩, tk_n (show x < 2147483648 by omega), tk_n (show k < 2147483648 by omega)] at q
    exact q I9 a b c v (fun _ => hv))
theorem mF18 {d b : Nat} {K : KM} {I : IM} {R : RM} {Q : QT} {n0 : Nat} {σ : ST} {day : Int32} {ma : Int32} {what : Int32} (hd : 2 ≤ d) (hM : MK K R) (hm : mv I = σ) (hV : IV n0 σ) (hn : n0 < 512) (q : ∀ I', FrM I I' → I' MO 28 = nI (Fz18 σ day ma what).1 → mv I' = (Fz18 σ day ma what).2.2 → ∀ v, ((Fz18 σ day ma what).1 = 0 → v = (Fz18 σ day ma what).2.1) → Q (.inl (some (pI v))) K I' R) : Mw d b N_X6_ofMatch 0 [some (pR (some MO)), some (pI day), some (pI ma), some (pI what), none] [] K I R Q := by
  have hpp := hV.1.2
  have htt := hV.2.1.2
  have hdd := hV.2.2.1.2
  by_cases hx : isN day 1000
  rotate_left
  · exact m_ofM_o hd hM hm hV hx (fun _ I9 a b c => by rw [Fz18_1 (fun h => hx h.1)] at q; exact q I9 a b c _ (fun h => absurd h (Nat.succ_ne_zero _))) (fun h9 _ _ _ _ _ => h9.elim)
  obtain ⟨x, hx9, ex⟩ := hx
  subst ex
  have etx := tk_n (n := x) (by omega)
  have h6 := (hV.2.2.2.2.2.1 x hx9).2.1
  exact m_ofM_i hd hM hm hV hx9 (fun h I9 a b c => by rw [Fz18_1 (fun h9 => h (by rw [etx] at h9; exact h9.2))] at q; exact q I9 a b c _ (fun h => absurd h (Nat.succ_ne_zero _))) (fun h1 h I9 a b c => by rw [Fz18_2 ⟨⟨x, hx9, rfl⟩, by rw [etx]; exact h1⟩ h] at q; exact q I9 a b c _ (fun h => absurd h (Nat.succ_ne_zero _))) (fun j k hj hk ej ek I9 a b c v hv => by
    subst ej ek
    rw [Fz18_0 ⟨⟨x, hx9, rfl⟩, by rw [etx]; exact ⟨j, hj, rfl⟩⟩ ⟨k, hk, rfl⟩, etx, tk_n (show j < 2147483648 by omega), tk_n (show k < 2147483648 by omega)] at q
    exact q I9 a b c v (fun _ => hv))
theorem mF19 {d b : Nat} {K : KM} {I : IM} {R : RM} {Q : QT} {n0 : Nat} {σ : ST} {t : Int32} {at_ : Int32} {pd : Prop} (hd : 2 ≤ d) (hM : MK K R) (hm : mv I = σ) (hV : IV n0 σ) (hn : n0 < 512) (q : ∀ I', FrM I I' → I' MO 28 = nI (Fz19 σ t at_ pd).1 → mv I' = (Fz19 σ t at_ pd).2.2 → ∀ v, ((Fz19 σ t at_ pd).1 = 0 → v = (Fz19 σ t at_ pd).2.1) → Q (.inl (some (pI v))) K I' R) : Mw d b N_X6_lineage 0 [some (pR (some MO)), some (pI t), some (pI at_), some (pI (bI pd)), none] [] K I R Q := by
  have hpp := hV.1.2
  have htt := hV.2.1.2
  have hdd := hV.2.2.1.2
  by_cases hx : isN t (tn σ)
  rotate_left
  · exact m_lin_o hd hM hm hV hx (fun _ I9 a b c => by rw [Fz19_1 (fun h => hx h.1)] at q; exact q I9 a b c _ (fun h => absurd h (Nat.succ_ne_zero _)))
  obtain ⟨x, hx9, ex⟩ := hx
  subst ex
  have etx := tk_n (n := x) (by omega)
  have hl9 := (hV.2.2.2.2.1 x (by omega)).2
  exact m_lin_i hd hM hm hV hx9 (by omega) (fun h I9 a b c => by rw [Fz19_1 (fun h9 => h (by rw [etx] at h9; exact h9.2))] at q; exact q I9 a b c _ (fun h => absurd h (Nat.succ_ne_zero _))) (fun k hk ek I9 a b c v hv => by
    subst ek
    rw [Fz19_0 ⟨⟨x, hx9, rfl⟩, by rw [etx]; exact ⟨k, hk, rfl⟩⟩, etx, tk_n (show k < 2147483648 by omega)] at q
    exact q I9 a b c v (fun _ => hv))
theorem mF20 {d b : Nat} {K : KM} {I : IM} {R : RM} {Q : QT} {n0 : Nat} {σ : ST} {t : Int32} (hd : 2 ≤ d) (hM : MK K R) (hm : mv I = σ) (hV : IV n0 σ) (hn : n0 < 512) (q : ∀ I', FrM I I' → I' MO 28 = nI (Fz20 σ t).1 → mv I' = (Fz20 σ t).2.2 → ∀ v, ((Fz20 σ t).1 = 0 → v = (Fz20 σ t).2.1) → Q (.inl (some (pI v))) K I' R) : Mw d b N_X6_champion 0 [some (pR (some MO)), some (pI t)] [] K I R Q := by
  have hpp := hV.1.2
  have htt := hV.2.1.2
  have hdd := hV.2.2.1.2
  exact m_champP hd hM hm hV (by omega) (fun h I9 a b c => by rw [Fz20_1 h] at q; exact q I9 a b c _ (fun h => absurd h (Nat.succ_ne_zero _))) (fun x hx ex I9 a b c v hv => by
    subst ex
    rw [Fz20_0 ⟨x, hx, rfl⟩, tk_n (show x < 2147483648 by omega)] at q
    exact q I9 a b c v (fun _ => hv))
theorem mF21 {d b : Nat} {K : KM} {I : IM} {R : RM} {Q : QT} {n0 : Nat} {σ : ST} {w : Int32} {o : Int32} (hd : 2 ≤ d) (hM : MK K R) (hm : mv I = σ) (hV : IV n0 σ) (hn : n0 < 512) (q : ∀ I', FrM I I' → I' MO 28 = nI (Fz21 σ w o).1 → mv I' = (Fz21 σ w o).2.2 → ∀ v, ((Fz21 σ w o).1 = 0 → v = (Fz21 σ w o).2.1) → Q (.inl (some (pI v))) K I' R) : Mw d b N_X6_beat 0 [some (pR (some MO)), some (pI w), some (pI o)] [] K I R Q := by
  have hpp := hV.1.2
  have htt := hV.2.1.2
  have hdd := hV.2.2.1.2
  exact m_beat hd hM hm hV (fun h I9 a b c => by rw [Fz21_1 h] at q; exact q I9 a b c _ (fun h => absurd h (Nat.succ_ne_zero _))) (fun x y hx hy ex ey I9 a b c v hv => by
    subst ex ey
    rw [Fz21_0 ⟨⟨x, hx, rfl⟩, ⟨y, hy, rfl⟩⟩, tk_n (show x < 2147483648 by omega), tk_n (show y < 2147483648 by omega)] at q
    exact q I9 a b c v (fun _ => hv))
theorem mF22 {d b : Nat} {K : KM} {I : IM} {R : RM} {Q : QT} {n0 : Nat} {σ : ST} {w : Int32} {o : Int32} (hd : 3 ≤ d) (hM : MK K R) (hm : mv I = σ) (hV : IV n0 σ) (hn : n0 < 512) (q : ∀ I', FrM I I' → I' MO 28 = nI (Fz22 σ w o).1 → mv I' = (Fz22 σ w o).2.2 → ∀ v, ((Fz22 σ w o).1 = 0 → v = (Fz22 σ w o).2.1) → Q (.inl (some (pI v))) K I' R) : Mw d b N_X6_beatAnew 0 [some (pR (some MO)), some (pI w), some (pI o)] [] K I R Q := by
  have hpp := hV.1.2
  have htt := hV.2.1.2
  have hdd := hV.2.2.1.2
  exact m_beatAnew hd hM hm hV (fun h I9 a b c => by rw [Fz22_1 h] at q; exact q I9 a b c _ (fun h => absurd h (Nat.succ_ne_zero _))) (fun x y hx hy ex ey I9 a b c v hv => by
    subst ex ey
    rw [Fz22_0 ⟨⟨x, hx, rfl⟩, ⟨y, hy, rfl⟩⟩, tk_n (show x < 2147483648 by omega), tk_n (show y < 2147483648 by omega)] at q
    exact q I9 a b c v (fun _ => hv))
theorem mF23 {d b : Nat} {K : KM} {I : IM} {R : RM} {Q : QT} {n0 : Nat} {σ : ST} {t : Int32} (hd : 2 ≤ d) (hM : MK K R) (hm : mv I = σ) (hV : IV n0 σ) (hn : n0 < 512) (q : ∀ I', FrM I I' → I' MO 28 = nI (Fz23 σ t).1 → mv I' = (Fz23 σ t).2.2 → ∀ v, ((Fz23 σ t).1 = 0 → v = (Fz23 σ t).2.1) → Q (.inl (some (pI v))) K I' R) : Mw d b N_X6_gate 0 [some (pR (some MO)), some (pI t)] [] K I R Q := by
  have hpp := hV.1.2
  have htt := hV.2.1.2
  have hdd := hV.2.2.1.2
  exact m_gate hd hM hm hV (fun h I9 a b c => by rw [Fz23_1 h] at q; exact q I9 a b c _ (fun h => absurd h (Nat.succ_ne_zero _))) (fun x hx ex I9 a b c v hv => by
    subst ex
    rw [Fz23_0 ⟨x, hx, rfl⟩, tk_n (show x < 2147483648 by omega)] at q
    exact q I9 a b c v (fun _ => hv))
