/-! ===== the model: wrong (2) ===== -/
def wr7 (ex : Bool) (w : Int32) (a b : Nat) : Int32 := if decide (a / 64 < 2) && decide (b / 64 < 2) && decide (1 < w) && !ex then 7 else 0
def wr6 (ex : Bool) (w : Int32) (a b : Nat) (f g : Bool) : Int32 := if ngI w && !f && !g then 6 else wr7 ex w a b
def wr5 (ex : Bool) (w : Int32) (a b : Nat) (f g : Bool) : Int32 := if !ngI w && (f || g) then 5 else wr6 ex w a b f g
def wr4 (ex : Bool) (w : Int32) (a b s : Nat) (f g : Bool) : Int32 := if decide (w < 2) && !spB b s then 4 else wr5 ex w a b f g
def wr3 (ex : Bool) (w : Int32) (a b s p : Nat) (f g : Bool) : Int32 := if ngI w && !spB a p then 3 else wr4 ex w a b s f g
def wr2 (ex : Bool) (w : Int32) (a b m s p : Nat) (f g : Bool) : Int32 := if !spB a m && !spB b m then 2 else wr3 ex w a b s p f g
def gWr (ex : Bool) (w : Int32) (a b : Nat) : Int32 := if ngI (nI (a / 64)) && ngI (nI (b / 64)) then 1 else wr2 ex w a b (mdN a b) (otN b (mdN a b)) (otN a (mdN a b)) (ngI (nI (a / 64))) (ngI (nI (b / 64)))
def aWrong (D : dT) (x y w : Int32) : Int32 := if slB D.1 x && slB D.1 y && lieB w 0 3 then aPr D x y (gWr D.2.2.2 w) else -1
section MPN
variable {d : Nat} {h : am_H} {F : Nat → Nat → Int32} {J : Nat → Nat → Int64} {V : Nat → Nat → Value} {Q : am_Q}
variable {v1 v2 : Value} {w : Int32} {a b m s p : Nat} {f g ex : Bool}
set_option maxRecDepth 20000 in
theorem m_wr222 (ha : a < 256) (hb : b < 256) (he : F 84 2697 = b2i ex) (K : Q (some (.int (wr7 ex w a b))) (ov h F J V)) : am_W kc_Model_wrong (am_cl (d + 6)) Q 222 [.ref 82, v1, v2, .int w, .int (nI a), .int (nI b), .int (nI m), .int (nI s), .int (nI p), .int (b2i f), .int (b2i g)] [] (ov h F J V) := by
  unfold wr7 at K
  simp only [ax0, ex_cons, am_get, upz_at, true_and, and_true, Nat.reduceAdd, Nat.reduceLeDiff, Nat.reduceEqDiff, Nat.reduceSub, Int32.reduceOfInt, Int32.reduceAdd, Int32.reduceMul, Int32.reduceSub, ↓reduceIte, Int32.reduceLT, Int32.reduceLE, Int32.reduceToNatClampNeg, Nat.reduceMod, Nat.reduceLT, List.length_cons, List.length_nil, eq_self, true_or, or_true, and_self, implies_true, not_true_eq_false, not_false_eq_true, false_implies, true_implies, forall_const, st_aload, st_goto, st_goto_w, st_iconst, st_idiv, st_ifCond, st_if_icmp, st_iload, st_in1, st_ireturn, jx_Model_wrong_222, kb_Model_wrong_222, oo_82, jx_Model_wrong_257, kb_Model_wrong_257, jx_Model_wrong_258, kb_Model_wrong_258, oa_82, show ((64 : Int32) = 0) = False from ax_f (by decide), show nI (a) / (64 : Int32) = nI ((a) / 64) from nk_div (a := a) (b := 64) (by omega) (by decide) (by decide), show nI (a) - nI ((a) / 64) * (64 : Int32) = nI ((a) % 64) from nk_rm (a := a) (b := 64) (by omega) (by decide) (by decide), show ((64 : Int32) = 0) = False from ax_f (by decide), show nI (b) / (64 : Int32) = nI ((b) / 64) from nk_div (a := b) (b := 64) (by omega) (by decide) (by decide), show nI (b) - nI ((b) / 64) * (64 : Int32) = nI ((b) % 64) from nk_rm (a := b) (b := 64) (by omega) (by decide) (by decide), show ((2 : Int32) ≤ nI (a / 64)) = (2 ≤ a / 64) from nk_le (a := 2) (b := a / 64) (by omega) (by omega), show ((2 : Int32) ≤ nI (b / 64)) = (2 ≤ b / 64) from nk_le (a := 2) (b := b / 64) (by omega) (by omega)]
  refine And.intro (fun q1 => ?_) (fun q1 => And.intro (fun q2 => ?_) (fun q2 => And.intro (fun q3 => ?_) (fun q3 => ?_)))
  · rw [decide_eq_false (show ¬ a / 64 < 2 by omega)] at K; exact K
  · rw [decide_eq_false (show ¬ b / 64 < 2 by omega), Bool.and_false] at K; exact K
  · rw [decide_eq_false (Int32.not_lt.mpr q3), Bool.and_false] at K; exact K
  · rw [decide_eq_true (show a / 64 < 2 by omega), decide_eq_true (show b / 64 < 2 by omega), decide_eq_true (Int32.not_le.mp q3)] at K
    refine m_isTold he ?_
    simp only [ax0, ex_cons, am_get, upz_at, true_and, and_true, Nat.reduceAdd, Nat.reduceLeDiff, Nat.reduceEqDiff, Nat.reduceSub, Int32.reduceOfInt, Int32.reduceAdd, Int32.reduceMul, Int32.reduceSub, ↓reduceIte, Int32.reduceLT, Int32.reduceLE, Int32.reduceToNatClampNeg, Nat.reduceMod, Nat.reduceLT, List.length_cons, List.length_nil, eq_self, true_or, or_true, and_self, implies_true, not_true_eq_false, not_false_eq_true, false_implies, true_implies, forall_const, st_aload, st_goto, st_goto_w, st_iconst, st_idiv, st_ifCond, st_if_icmp, st_iload, st_in1, st_ireturn, jx_Model_wrong_222, kb_Model_wrong_222, oo_82, jx_Model_wrong_257, kb_Model_wrong_257, jx_Model_wrong_258, kb_Model_wrong_258, oa_82]
    refine ifnb (fun e => ?_) (fun e => ?_) <;> rw [e] at K <;> exact K
set_option maxRecDepth 20000 in
theorem m_wr202 (ha : a < 256) (hb : b < 256) (he : F 84 2697 = b2i ex) (K : Q (some (.int (wr6 ex w a b f g))) (ov h F J V)) : am_W kc_Model_wrong (am_cl (d + 6)) Q 202 [.ref 82, v1, v2, .int w, .int (nI a), .int (nI b), .int (nI m), .int (nI s), .int (nI p), .int (b2i f), .int (b2i g)] [] (ov h F J V) := by
  unfold wr6 at K
  simp only [ax0, ex_cons, am_get, upz_at, true_and, and_true, Nat.reduceAdd, Nat.reduceLeDiff, Nat.reduceEqDiff, Nat.reduceSub, Int32.reduceOfInt, Int32.reduceAdd, Int32.reduceMul, Int32.reduceSub, ↓reduceIte, Int32.reduceLT, Int32.reduceLE, Int32.reduceToNatClampNeg, Nat.reduceMod, Nat.reduceLT, List.length_cons, List.length_nil, eq_self, true_or, or_true, and_self, implies_true, not_true_eq_false, not_false_eq_true, false_implies, true_implies, forall_const, st_iconst, st_ifCond, st_iload, st_st1, st_ireturn, jx_Model_wrong_202, kb_Model_wrong_202]
  refine m_isNegative ?_
  simp only [ax0, ex_cons, am_get, upz_at, true_and, and_true, Nat.reduceAdd, Nat.reduceLeDiff, Nat.reduceEqDiff, Nat.reduceSub, Int32.reduceOfInt, Int32.reduceAdd, Int32.reduceMul, Int32.reduceSub, ↓reduceIte, Int32.reduceLT, Int32.reduceLE, Int32.reduceToNatClampNeg, Nat.reduceMod, Nat.reduceLT, List.length_cons, List.length_nil, eq_self, true_or, or_true, and_self, implies_true, not_true_eq_false, not_false_eq_true, false_implies, true_implies, forall_const, st_iconst, st_ifCond, st_iload, st_st1, st_ireturn, jx_Model_wrong_202, kb_Model_wrong_202]
  refine ifb (fun e => m_wr222 ha hb he (by rw [e] at K; exact K)) (fun e => ?_)
  refine ifnb (fun e2 => m_wr222 ha hb he (by rw [e, e2] at K; exact K)) (fun e2 => ?_)
  refine ifnb (fun e3 => m_wr222 ha hb he (by rw [e, e2, e3] at K; exact K)) (fun e3 => ?_)
  rw [e, e2, e3] at K
  exact K
set_option maxRecDepth 20000 in
theorem m_wr183 (ha : a < 256) (hb : b < 256) (he : F 84 2697 = b2i ex) (K : Q (some (.int (wr5 ex w a b f g))) (ov h F J V)) : am_W kc_Model_wrong (am_cl (d + 6)) Q 183 [.ref 82, v1, v2, .int w, .int (nI a), .int (nI b), .int (nI m), .int (nI s), .int (nI p), .int (b2i f), .int (b2i g)] [] (ov h F J V) := by
  unfold wr5 at K
  simp only [ax0, ex_cons, am_get, upz_at, true_and, and_true, Nat.reduceAdd, Nat.reduceLeDiff, Nat.reduceEqDiff, Nat.reduceSub, Int32.reduceOfInt, Int32.reduceAdd, Int32.reduceMul, Int32.reduceSub, ↓reduceIte, Int32.reduceLT, Int32.reduceLE, Int32.reduceToNatClampNeg, Nat.reduceMod, Nat.reduceLT, List.length_cons, List.length_nil, eq_self, true_or, or_true, and_self, implies_true, not_true_eq_false, not_false_eq_true, false_implies, true_implies, forall_const, st_goto_w, st_ifCond, st_iload, st_st1, jx_Model_wrong_183, kb_Model_wrong_183]
  refine m_isNegative ?_
  simp only [ax0, ex_cons, am_get, upz_at, true_and, and_true, Nat.reduceAdd, Nat.reduceLeDiff, Nat.reduceEqDiff, Nat.reduceSub, Int32.reduceOfInt, Int32.reduceAdd, Int32.reduceMul, Int32.reduceSub, ↓reduceIte, Int32.reduceLT, Int32.reduceLE, Int32.reduceToNatClampNeg, Nat.reduceMod, Nat.reduceLT, List.length_cons, List.length_nil, eq_self, true_or, or_true, and_self, implies_true, not_true_eq_false, not_false_eq_true, false_implies, true_implies, forall_const, st_goto_w, st_iconst, st_ifCond, st_iload, st_st1, st_ireturn, jx_Model_wrong_183, kb_Model_wrong_183, jx_Model_wrong_200, kb_Model_wrong_200]
  refine ifnb (fun e => m_wr202 ha hb he (by rw [e] at K; exact K)) (fun e => ?_)
  refine ifnb (fun e2 => ?_) (fun e2 => ?_)
  · rw [e, e2] at K; exact K
  refine ifb (fun e3 => m_wr202 ha hb he (by rw [e, e2, e3] at K; rw [e2, e3]; exact K)) (fun e3 => ?_)
  rw [e, e2, e3] at K
  exact K
set_option maxRecDepth 20000 in
theorem m_wr166 (ha : a < 256) (hb : b < 256) (hs : s < 8) (he : F 84 2697 = b2i ex) (K : Q (some (.int (wr4 ex w a b s f g))) (ov h F J V)) : am_W kc_Model_wrong (am_cl (d + 6)) Q 166 [.ref 82, v1, v2, .int w, .int (nI a), .int (nI b), .int (nI m), .int (nI s), .int (nI p), .int (b2i f), .int (b2i g)] [] (ov h F J V) := by
  unfold wr4 at K
  simp only [ax0, ex_cons, am_get, upz_at, true_and, and_true, Nat.reduceAdd, Nat.reduceLeDiff, Nat.reduceEqDiff, Nat.reduceSub, Int32.reduceOfInt, Int32.reduceAdd, Int32.reduceMul, Int32.reduceSub, ↓reduceIte, Int32.reduceLT, Int32.reduceLE, Int32.reduceToNatClampNeg, Nat.reduceMod, Nat.reduceLT, List.length_cons, List.length_nil, eq_self, true_or, or_true, and_self, implies_true, not_true_eq_false, not_false_eq_true, false_implies, true_implies, forall_const, st_iconst, st_ifCond, st_if_icmp, st_iload, st_st2, st_ireturn, jx_Model_wrong_166, kb_Model_wrong_166]
  refine And.intro (fun q => m_wr183 ha hb he (by rw [decide_eq_false (Int32.not_lt.mpr q)] at K; exact K)) (fun q => ?_)
  rw [decide_eq_true (Int32.not_le.mp q)] at K
  refine m_isSpread hb hs ?_
  simp only [ax0, ex_cons, am_get, upz_at, true_and, and_true, Nat.reduceAdd, Nat.reduceLeDiff, Nat.reduceEqDiff, Nat.reduceSub, Int32.reduceOfInt, Int32.reduceAdd, Int32.reduceMul, Int32.reduceSub, ↓reduceIte, Int32.reduceLT, Int32.reduceLE, Int32.reduceToNatClampNeg, Nat.reduceMod, Nat.reduceLT, List.length_cons, List.length_nil, eq_self, true_or, or_true, and_self, implies_true, not_true_eq_false, not_false_eq_true, false_implies, true_implies, forall_const, st_iconst, st_ifCond, st_if_icmp, st_iload, st_st2, st_ireturn, jx_Model_wrong_166, kb_Model_wrong_166]
  refine ifnb (fun e => m_wr183 ha hb he (by rw [e] at K; exact K)) (fun e => ?_)
  rw [e] at K
  exact K
set_option maxRecDepth 20000 in
theorem m_wr147 (ha : a < 256) (hb : b < 256) (hs : s < 8) (hp : p < 8) (he : F 84 2697 = b2i ex) (K : Q (some (.int (wr3 ex w a b s p f g))) (ov h F J V)) : am_W kc_Model_wrong (am_cl (d + 6)) Q 147 [.ref 82, v1, v2, .int w, .int (nI a), .int (nI b), .int (nI m), .int (nI s), .int (nI p), .int (b2i f), .int (b2i g)] [] (ov h F J V) := by
  unfold wr3 at K
  simp only [ax0, ex_cons, am_get, upz_at, true_and, and_true, Nat.reduceAdd, Nat.reduceLeDiff, Nat.reduceEqDiff, Nat.reduceSub, Int32.reduceOfInt, Int32.reduceAdd, Int32.reduceMul, Int32.reduceSub, ↓reduceIte, Int32.reduceLT, Int32.reduceLE, Int32.reduceToNatClampNeg, Nat.reduceMod, Nat.reduceLT, List.length_cons, List.length_nil, eq_self, true_or, or_true, and_self, implies_true, not_true_eq_false, not_false_eq_true, false_implies, true_implies, forall_const, st_iconst, st_ifCond, st_iload, st_st1, st_st2, st_ireturn, jx_Model_wrong_147, kb_Model_wrong_147]
  refine m_isNegative ?_
  simp only [ax0, ex_cons, am_get, upz_at, true_and, and_true, Nat.reduceAdd, Nat.reduceLeDiff, Nat.reduceEqDiff, Nat.reduceSub, Int32.reduceOfInt, Int32.reduceAdd, Int32.reduceMul, Int32.reduceSub, ↓reduceIte, Int32.reduceLT, Int32.reduceLE, Int32.reduceToNatClampNeg, Nat.reduceMod, Nat.reduceLT, List.length_cons, List.length_nil, eq_self, true_or, or_true, and_self, implies_true, not_true_eq_false, not_false_eq_true, false_implies, true_implies, forall_const, st_iconst, st_ifCond, st_iload, st_st1, st_st2, st_ireturn, jx_Model_wrong_147, kb_Model_wrong_147]
  refine ifb (fun e => m_wr166 ha hb hs he (by rw [e] at K; exact K)) (fun e => ?_)
  refine m_isSpread ha hp ?_
  simp only [ax0, ex_cons, am_get, upz_at, true_and, and_true, Nat.reduceAdd, Nat.reduceLeDiff, Nat.reduceEqDiff, Nat.reduceSub, Int32.reduceOfInt, Int32.reduceAdd, Int32.reduceMul, Int32.reduceSub, ↓reduceIte, Int32.reduceLT, Int32.reduceLE, Int32.reduceToNatClampNeg, Nat.reduceMod, Nat.reduceLT, List.length_cons, List.length_nil, eq_self, true_or, or_true, and_self, implies_true, not_true_eq_false, not_false_eq_true, false_implies, true_implies, forall_const, st_iconst, st_ifCond, st_iload, st_st1, st_st2, st_ireturn, jx_Model_wrong_147, kb_Model_wrong_147]
  refine ifnb (fun e2 => m_wr166 ha hb hs he (by rw [e, e2] at K; exact K)) (fun e2 => ?_)
  rw [e, e2] at K
  exact K
set_option maxRecDepth 20000 in
theorem m_wr125 (ha : a < 256) (hb : b < 256) (hm : m < 8) (hs : s < 8) (hp : p < 8) (he : F 84 2697 = b2i ex) (K : Q (some (.int (wr2 ex w a b m s p f g))) (ov h F J V)) : am_W kc_Model_wrong (am_cl (d + 6)) Q 125 [.ref 82, v1, v2, .int w, .int (nI a), .int (nI b), .int (nI m), .int (nI s), .int (nI p), .int (b2i f), .int (b2i g)] [] (ov h F J V) := by
  unfold wr2 at K
  simp only [ax0, ex_cons, am_get, upz_at, true_and, and_true, Nat.reduceAdd, Nat.reduceLeDiff, Nat.reduceEqDiff, Nat.reduceSub, Int32.reduceOfInt, Int32.reduceAdd, Int32.reduceMul, Int32.reduceSub, ↓reduceIte, Int32.reduceLT, Int32.reduceLE, Int32.reduceToNatClampNeg, Nat.reduceMod, Nat.reduceLT, List.length_cons, List.length_nil, eq_self, true_or, or_true, and_self, implies_true, not_true_eq_false, not_false_eq_true, false_implies, true_implies, forall_const, st_iconst, st_ifCond, st_iload, st_st2, st_ireturn, jx_Model_wrong_125, kb_Model_wrong_125]
  refine m_isSpread ha hm ?_
  simp only [ax0, ex_cons, am_get, upz_at, true_and, and_true, Nat.reduceAdd, Nat.reduceLeDiff, Nat.reduceEqDiff, Nat.reduceSub, Int32.reduceOfInt, Int32.reduceAdd, Int32.reduceMul, Int32.reduceSub, ↓reduceIte, Int32.reduceLT, Int32.reduceLE, Int32.reduceToNatClampNeg, Nat.reduceMod, Nat.reduceLT, List.length_cons, List.length_nil, eq_self, true_or, or_true, and_self, implies_true, not_true_eq_false, not_false_eq_true, false_implies, true_implies, forall_const, st_iconst, st_ifCond, st_iload, st_st2, st_ireturn, jx_Model_wrong_125, kb_Model_wrong_125]
  refine ifnb (fun e => m_wr147 ha hb hs hp he (by rw [e] at K; exact K)) (fun e => ?_)
  refine m_isSpread hb hm ?_
  simp only [ax0, ex_cons, am_get, upz_at, true_and, and_true, Nat.reduceAdd, Nat.reduceLeDiff, Nat.reduceEqDiff, Nat.reduceSub, Int32.reduceOfInt, Int32.reduceAdd, Int32.reduceMul, Int32.reduceSub, ↓reduceIte, Int32.reduceLT, Int32.reduceLE, Int32.reduceToNatClampNeg, Nat.reduceMod, Nat.reduceLT, List.length_cons, List.length_nil, eq_self, true_or, or_true, and_self, implies_true, not_true_eq_false, not_false_eq_true, false_implies, true_implies, forall_const, st_iconst, st_ifCond, st_iload, st_st2, st_ireturn, jx_Model_wrong_125, kb_Model_wrong_125]
  refine ifnb (fun e2 => m_wr147 ha hb hs hp he (by rw [e, e2] at K; exact K)) (fun e2 => ?_)
  rw [e, e2] at K
  exact K
end MPN
section MPO
variable {d : Nat} {h : am_H} {F : Nat → Nat → Int32} {J : Nat → Nat → Int64} {V : Nat → Nat → Value} {Q : am_Q}
set_option maxRecDepth 20000 in
theorem mp_wrong {D : dT} (hD : MK (F 84) D) {x y w : Int32} (K : Q (some (.int (aWrong D x y w))) (ov h F J V)) : am_cl (d + 7) 272 [.ref 82, .int x, .int y, .int w] (ov h F J V) Q := by
  have no : aWrong D x y w = -1 → am_W kc_Model_wrong (am_cl (d + 6)) Q 25 [.ref 82, .int x, .int y, .int w, am_dum, am_dum, am_dum, am_dum, am_dum, am_dum, am_dum] [] (ov h F J V) := fun e => by
    rw [e] at K
    simp only [ax0, ex_cons, am_get, upz_at, true_and, and_true, Nat.reduceAdd, Nat.reduceLeDiff, Nat.reduceEqDiff, Nat.reduceSub, Int32.reduceOfInt, Int32.reduceAdd, Int32.reduceMul, Int32.reduceSub, ↓reduceIte, Int32.reduceLT, Int32.reduceLE, Int32.reduceToNatClampNeg, Nat.reduceMod, Nat.reduceLT, List.length_cons, List.length_nil, eq_self, true_or, or_true, and_self, implies_true, not_true_eq_false, not_false_eq_true, false_implies, true_implies, forall_const, st_iconst, st_ireturn, jx_Model_wrong_25, kb_Model_wrong_25]
    exact K
  simp only [ax0, ex_cons, am_get, upz_at, true_and, and_true, Nat.reduceAdd, Nat.reduceLeDiff, Nat.reduceEqDiff, Nat.reduceSub, Int32.reduceOfInt, Int32.reduceAdd, Int32.reduceMul, Int32.reduceSub, ↓reduceIte, Int32.reduceLT, Int32.reduceLE, Int32.reduceToNatClampNeg, Nat.reduceMod, Nat.reduceLT, List.length_cons, List.length_nil, eq_self, true_or, or_true, and_self, implies_true, not_true_eq_false, not_false_eq_true, false_implies, true_implies, forall_const, st_aload, st_goto_w, st_iconst, st_ifCond, st_iload, st_in2, st_st3, kb_Model_wrong_0, oo_82, oa_82, cx_Model_wrong]
  refine m_isSlip hD.1 ?_
  simp only [ax0, ex_cons, am_get, upz_at, true_and, and_true, Nat.reduceAdd, Nat.reduceLeDiff, Nat.reduceEqDiff, Nat.reduceSub, Int32.reduceOfInt, Int32.reduceAdd, Int32.reduceMul, Int32.reduceSub, ↓reduceIte, Int32.reduceLT, Int32.reduceLE, Int32.reduceToNatClampNeg, Nat.reduceMod, Nat.reduceLT, List.length_cons, List.length_nil, eq_self, true_or, or_true, and_self, implies_true, not_true_eq_false, not_false_eq_true, false_implies, true_implies, forall_const, st_aload, st_goto_w, st_iconst, st_ifCond, st_iload, st_in2, st_st3, kb_Model_wrong_0, oo_82, oa_82]
  refine ifb (fun e => no (by unfold aWrong slB; rw [e, Bool.false_and, Bool.false_and]; exact if_neg Bool.false_ne_true)) (fun e => ?_)
  refine m_isSlip hD.1 ?_
  simp only [ax0, ex_cons, am_get, upz_at, true_and, and_true, Nat.reduceAdd, Nat.reduceLeDiff, Nat.reduceEqDiff, Nat.reduceSub, Int32.reduceOfInt, Int32.reduceAdd, Int32.reduceMul, Int32.reduceSub, ↓reduceIte, Int32.reduceLT, Int32.reduceLE, Int32.reduceToNatClampNeg, Nat.reduceMod, Nat.reduceLT, List.length_cons, List.length_nil, eq_self, true_or, or_true, and_self, implies_true, not_true_eq_false, not_false_eq_true, false_implies, true_implies, forall_const, st_aload, st_goto_w, st_iconst, st_ifCond, st_iload, st_in2, st_st3, kb_Model_wrong_0, oo_82, oa_82]
  refine ifb (fun e2 => no (by unfold aWrong slB; rw [e2, Bool.and_false, Bool.false_and]; exact if_neg Bool.false_ne_true)) (fun e2 => ?_)
  refine m_lies ?_
  simp only [ax0, ex_cons, am_get, upz_at, true_and, and_true, Nat.reduceAdd, Nat.reduceLeDiff, Nat.reduceEqDiff, Nat.reduceSub, Int32.reduceOfInt, Int32.reduceAdd, Int32.reduceMul, Int32.reduceSub, ↓reduceIte, Int32.reduceLT, Int32.reduceLE, Int32.reduceToNatClampNeg, Nat.reduceMod, Nat.reduceLT, List.length_cons, List.length_nil, eq_self, true_or, or_true, and_self, implies_true, not_true_eq_false, not_false_eq_true, false_implies, true_implies, forall_const, st_aload, st_goto_w, st_iconst, st_ifCond, st_iload, st_in2, st_st3, kb_Model_wrong_0, oo_82, oa_82]
  refine ifnb (fun e5 => ?_) (fun e5 => no (by unfold aWrong slB; rw [e5, Bool.and_false]; exact if_neg Bool.false_ne_true))
  obtain ⟨s1, a1, a2, a3⟩ := slB_nI hD.2.1 e
  obtain ⟨s2, b1, b2, b3⟩ := slB_nI hD.2.1 e2
  have e0 : aWrong D x y w = aPr D x y (gWr D.2.2.2 w) := by unfold aWrong slB; rw [e, e2, e5]; exact if_pos rfl
  rw [e0] at K
  unfold aPr at K
  rw [a3, b3] at K
  rw [a1, b1]
  have hn := hD.2.1
  have hm1 := hD.2.2.2.2.1 s1 a2
  have hm2 := hD.2.2.2.2.1 s2 b2
  simp only [ax0, ex_cons, am_get, upz_at, true_and, and_true, Nat.reduceAdd, Nat.reduceLeDiff, Nat.reduceEqDiff, Nat.reduceSub, Int32.reduceOfInt, Int32.reduceAdd, Int32.reduceMul, Int32.reduceSub, ↓reduceIte, Int32.reduceLT, Int32.reduceLE, Int32.reduceToNatClampNeg, Nat.reduceMod, Nat.reduceLT, List.length_cons, List.length_nil, eq_self, true_or, or_true, and_self, implies_true, not_true_eq_false, not_false_eq_true, false_implies, true_implies, forall_const, st_aload, st_goto_w, st_iconst, st_if_icmp, st_iload, st_in2, st_st2, st_istore, am_put, am_nlg, jx_Model_wrong_27, kb_Model_wrong_27, oo_82, oa_82]
  refine m_numberOf (s := s1) (by omega) hm1.1 hm1.2.1 ?_
  simp only [ax0, ex_cons, am_get, upz_at, true_and, and_true, Nat.reduceAdd, Nat.reduceLeDiff, Nat.reduceEqDiff, Nat.reduceSub, Int32.reduceOfInt, Int32.reduceAdd, Int32.reduceMul, Int32.reduceSub, ↓reduceIte, Int32.reduceLT, Int32.reduceLE, Int32.reduceToNatClampNeg, Nat.reduceMod, Nat.reduceLT, List.length_cons, List.length_nil, eq_self, true_or, or_true, and_self, implies_true, not_true_eq_false, not_false_eq_true, false_implies, true_implies, forall_const, st_aload, st_goto_w, st_iconst, st_if_icmp, st_iload, st_in2, st_st2, st_istore, am_put, am_nlg, jx_Model_wrong_27, kb_Model_wrong_27, oo_82, oa_82]
  refine m_numberOf (s := s2) (by omega) hm2.1 hm2.2.1 ?_
  cases e3 : nuR (D.2.1 s1) with
  | none =>
    simp only [e3] at K
    simp only [ax0, ex_cons, am_get, upz_at, true_and, and_true, Nat.reduceAdd, Nat.reduceLeDiff, Nat.reduceEqDiff, Nat.reduceSub, Int32.reduceOfInt, Int32.reduceAdd, Int32.reduceMul, Int32.reduceSub, ↓reduceIte, Int32.reduceLT, Int32.reduceLE, Int32.reduceToNatClampNeg, Nat.reduceMod, Nat.reduceLT, List.length_cons, List.length_nil, eq_self, true_or, or_true, and_self, implies_true, not_true_eq_false, not_false_eq_true, false_implies, true_implies, forall_const, st_aload, st_goto_w, st_iconst, st_if_icmp, st_iload, st_in2, st_st2, st_ireturn, st_istore, am_put, am_nlg, jx_Model_wrong_27, kb_Model_wrong_27, oo_82, jx_Model_wrong_64, kb_Model_wrong_64, oa_82, oI_n]
    exact K
  | some a =>
    obtain ⟨ha, na⟩ := nuR_num hm1.1 e3
    cases e4 : nuR (D.2.1 s2) with
    | none =>
      simp only [e3, e4] at K
      simp only [ax0, ex_cons, am_get, upz_at, true_and, and_true, Nat.reduceAdd, Nat.reduceLeDiff, Nat.reduceEqDiff, Nat.reduceSub, Int32.reduceOfInt, Int32.reduceAdd, Int32.reduceMul, Int32.reduceSub, ↓reduceIte, Int32.reduceLT, Int32.reduceLE, Int32.reduceToNatClampNeg, Nat.reduceMod, Nat.reduceLT, List.length_cons, List.length_nil, eq_self, true_or, or_true, and_self, implies_true, not_true_eq_false, not_false_eq_true, false_implies, true_implies, forall_const, st_aload, st_goto_w, st_iconst, st_if_icmp, st_iload, st_in2, st_st2, st_ireturn, st_istore, am_put, am_nlg, jx_Model_wrong_27, kb_Model_wrong_27, oo_82, jx_Model_wrong_64, kb_Model_wrong_64, oa_82, oI_n, oI_s, nI_neg1 (show a < 2147483648 by omega)]
      exact K
    | some b =>
      obtain ⟨hb, nb⟩ := nuR_num hm2.1 e4
      simp only [e3, e4] at K
      simp only [ax0, ex_cons, am_get, upz_at, true_and, and_true, Nat.reduceAdd, Nat.reduceLeDiff, Nat.reduceEqDiff, Nat.reduceSub, Int32.reduceOfInt, Int32.reduceAdd, Int32.reduceMul, Int32.reduceSub, ↓reduceIte, Int32.reduceLT, Int32.reduceLE, Int32.reduceToNatClampNeg, Nat.reduceMod, Nat.reduceLT, List.length_cons, List.length_nil, eq_self, true_or, or_true, and_self, implies_true, not_true_eq_false, not_false_eq_true, false_implies, true_implies, forall_const, st_aload, st_goto_w, st_iconst, st_if_icmp, st_iload, st_in2, st_st2, st_istore, am_put, am_nlg, jx_Model_wrong_27, kb_Model_wrong_27, oo_82, oa_82, oI_s, nI_neg1 (show a < 2147483648 by omega), nI_neg1 (show b < 2147483648 by omega)]
      refine m_figure ha hb na nb ?_
      simp only [ax0, ex_cons, am_get, upz_at, true_and, and_true, Nat.reduceAdd, Nat.reduceLeDiff, Nat.reduceEqDiff, Nat.reduceSub, Int32.reduceOfInt, Int32.reduceAdd, Int32.reduceMul, Int32.reduceSub, ↓reduceIte, Int32.reduceLT, Int32.reduceLE, Int32.reduceToNatClampNeg, Nat.reduceMod, Nat.reduceLT, List.length_cons, List.length_nil, eq_self, true_or, or_true, and_self, implies_true, not_true_eq_false, not_false_eq_true, false_implies, true_implies, forall_const, st_aload, st_goto_w, st_iconst, st_if_icmp, st_iload, st_in2, st_st2, st_istore, am_put, am_nlg, jx_Model_wrong_27, kb_Model_wrong_27, oo_82, oa_82]
      refine And.intro (fun q => ?_) (fun q => ?_)
      · rw [if_neg q] at K
        unfold gWr at K
        have hm := mdN_lt a b
        simp only [ax0, ex_cons, am_get, upz_at, true_and, and_true, Nat.reduceAdd, Nat.reduceLeDiff, Nat.reduceEqDiff, Nat.reduceSub, Int32.reduceOfInt, Int32.reduceAdd, Int32.reduceMul, Int32.reduceSub, ↓reduceIte, Int32.reduceLT, Int32.reduceLE, Int32.reduceToNatClampNeg, Nat.reduceMod, Nat.reduceLT, List.length_cons, List.length_nil, eq_self, true_or, or_true, and_self, implies_true, not_true_eq_false, not_false_eq_true, false_implies, true_implies, forall_const, st_iconst, st_idiv, st_ifCond, st_iload, st_st1, st_st2, st_ireturn, st_istore, am_put, am_nlg, jx_Model_wrong_66, kb_Model_wrong_66]
        refine m_middle ha hb na nb ?_
        simp only [ax0, ex_cons, am_get, upz_at, true_and, and_true, Nat.reduceAdd, Nat.reduceLeDiff, Nat.reduceEqDiff, Nat.reduceSub, Int32.reduceOfInt, Int32.reduceAdd, Int32.reduceMul, Int32.reduceSub, ↓reduceIte, Int32.reduceLT, Int32.reduceLE, Int32.reduceToNatClampNeg, Nat.reduceMod, Nat.reduceLT, List.length_cons, List.length_nil, eq_self, true_or, or_true, and_self, implies_true, not_true_eq_false, not_false_eq_true, false_implies, true_implies, forall_const, st_iconst, st_idiv, st_ifCond, st_iload, st_st1, st_st2, st_ireturn, st_istore, am_put, am_nlg, jx_Model_wrong_66, kb_Model_wrong_66]
        refine m_otherOf hb hm ?_
        simp only [ax0, ex_cons, am_get, upz_at, true_and, and_true, Nat.reduceAdd, Nat.reduceLeDiff, Nat.reduceEqDiff, Nat.reduceSub, Int32.reduceOfInt, Int32.reduceAdd, Int32.reduceMul, Int32.reduceSub, ↓reduceIte, Int32.reduceLT, Int32.reduceLE, Int32.reduceToNatClampNeg, Nat.reduceMod, Nat.reduceLT, List.length_cons, List.length_nil, eq_self, true_or, or_true, and_self, implies_true, not_true_eq_false, not_false_eq_true, false_implies, true_implies, forall_const, st_iconst, st_idiv, st_ifCond, st_iload, st_st1, st_st2, st_ireturn, st_istore, am_put, am_nlg, jx_Model_wrong_66, kb_Model_wrong_66]
        refine m_otherOf ha hm ?_
        simp only [ax0, ex_cons, am_get, upz_at, true_and, and_true, Nat.reduceAdd, Nat.reduceLeDiff, Nat.reduceEqDiff, Nat.reduceSub, Int32.reduceOfInt, Int32.reduceAdd, Int32.reduceMul, Int32.reduceSub, ↓reduceIte, Int32.reduceLT, Int32.reduceLE, Int32.reduceToNatClampNeg, Nat.reduceMod, Nat.reduceLT, List.length_cons, List.length_nil, eq_self, true_or, or_true, and_self, implies_true, not_true_eq_false, not_false_eq_true, false_implies, true_implies, forall_const, st_iconst, st_idiv, st_ifCond, st_iload, st_st1, st_st2, st_ireturn, st_istore, am_put, am_nlg, jx_Model_wrong_66, kb_Model_wrong_66, show ((64 : Int32) = 0) = False from ax_f (by decide), show nI (a) / (64 : Int32) = nI ((a) / 64) from nk_div (a := a) (b := 64) (by omega) (by decide) (by decide), show nI (a) - nI ((a) / 64) * (64 : Int32) = nI ((a) % 64) from nk_rm (a := a) (b := 64) (by omega) (by decide) (by decide)]
        refine m_isNegative ?_
        simp only [ax0, ex_cons, am_get, upz_at, true_and, and_true, Nat.reduceAdd, Nat.reduceLeDiff, Nat.reduceEqDiff, Nat.reduceSub, Int32.reduceOfInt, Int32.reduceAdd, Int32.reduceMul, Int32.reduceSub, ↓reduceIte, Int32.reduceLT, Int32.reduceLE, Int32.reduceToNatClampNeg, Nat.reduceMod, Nat.reduceLT, List.length_cons, List.length_nil, eq_self, true_or, or_true, and_self, implies_true, not_true_eq_false, not_false_eq_true, false_implies, true_implies, forall_const, st_iconst, st_idiv, st_ifCond, st_iload, st_st1, st_st2, st_ireturn, st_istore, am_put, am_nlg, jx_Model_wrong_66, kb_Model_wrong_66, show ((64 : Int32) = 0) = False from ax_f (by decide), show nI (b) / (64 : Int32) = nI ((b) / 64) from nk_div (a := b) (b := 64) (by omega) (by decide) (by decide), show nI (b) - nI ((b) / 64) * (64 : Int32) = nI ((b) % 64) from nk_rm (a := b) (b := 64) (by omega) (by decide) (by decide)]
        refine m_isNegative ?_
        simp only [ax0, ex_cons, am_get, upz_at, true_and, and_true, Nat.reduceAdd, Nat.reduceLeDiff, Nat.reduceEqDiff, Nat.reduceSub, Int32.reduceOfInt, Int32.reduceAdd, Int32.reduceMul, Int32.reduceSub, ↓reduceIte, Int32.reduceLT, Int32.reduceLE, Int32.reduceToNatClampNeg, Nat.reduceMod, Nat.reduceLT, List.length_cons, List.length_nil, eq_self, true_or, or_true, and_self, implies_true, not_true_eq_false, not_false_eq_true, false_implies, true_implies, forall_const, st_iconst, st_idiv, st_ifCond, st_iload, st_st1, st_st2, st_ireturn, st_istore, am_put, am_nlg, jx_Model_wrong_66, kb_Model_wrong_66]
        refine ifb (fun z1 => m_wr125 ha hb hm (otN_lt _ _) (otN_lt _ _) hD.2.2.2.1 (by rw [z1] at K; rw [z1]; exact K)) (fun z1 => ?_)
        refine ifb (fun z2 => m_wr125 ha hb hm (otN_lt _ _) (otN_lt _ _) hD.2.2.2.1 (by rw [z1, z2] at K; rw [z1, z2]; exact K)) (fun z2 => ?_)
        rw [z1, z2] at K
        exact K
      · rw [if_pos (Decidable.not_not.mp q)] at K
        simp only [ax0, ex_cons, am_get, upz_at, true_and, and_true, Nat.reduceAdd, Nat.reduceLeDiff, Nat.reduceEqDiff, Nat.reduceSub, Int32.reduceOfInt, Int32.reduceAdd, Int32.reduceMul, Int32.reduceSub, ↓reduceIte, Int32.reduceLT, Int32.reduceLE, Int32.reduceToNatClampNeg, Nat.reduceMod, Nat.reduceLT, List.length_cons, List.length_nil, eq_self, true_or, or_true, and_self, implies_true, not_true_eq_false, not_false_eq_true, false_implies, true_implies, forall_const, st_iconst, st_ireturn, jx_Model_wrong_64, kb_Model_wrong_64]
        exact K
end MPO
