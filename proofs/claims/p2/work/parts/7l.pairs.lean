/-! EVERY PAIR OF METHODS THAT TOUCHES THE RELATION -/
theorem u9_m {k j : Nat} (h : c9m k j) : uK k j := Or.inl h
theorem u9_t {k j : Nat} (h : c9t k j) : uK k j := Or.inr (Or.inl h)
theorem u9_d {k j : Nat} (h : c9d k j) : uK k j := Or.inr (Or.inr (Or.inl h))
theorem u9_p {k j : Nat} (h : c9p k j) : uK k j := Or.inr (Or.inr (Or.inr (Or.inl h)))
theorem u9_q {k j : Nat} (h : c9q k j) : uK k j := Or.inr (Or.inr (Or.inr (Or.inr (Or.inl h))))
theorem u9_T {k j : Nat} (h : c9T k j) : uK k j := Or.inr (Or.inr (Or.inr (Or.inr (Or.inr (Or.inl h)))))
theorem u9_F {k j : Nat} (h : c9F k j) : uK k j := Or.inr (Or.inr (Or.inr (Or.inr (Or.inr (Or.inr (Or.inl h))))))
theorem u9_I {k j : Nat} (h : c9I k j) : uK k j := Or.inr (Or.inr (Or.inr (Or.inr (Or.inr (Or.inr (Or.inr (Or.inl h)))))))
theorem u9_W {k j : Nat} (h : c9W k j) : uK k j := Or.inr (Or.inr (Or.inr (Or.inr (Or.inr (Or.inr (Or.inr (Or.inr h)))))))
def rc_m (k j : Nat) : Prop := k = 2 ∧ j = 0
def ry_m (k j : Nat) : Prop := k = 552 ∧ j = 0
def rc_t (k j : Nat) : Prop := k = 8 ∧ j = 2
def ry_t (k j : Nat) : Prop := k = 552 ∧ j = 7
def rc_d (k j : Nat) : Prop := k = 1 ∧ j = 11
def ry_d (k j : Nat) : Prop := k = 552 ∧ j = 6
def rc_T (k j : Nat) : Prop := (k = 541 ∧ j = 1) ∨ k = 542
def ry_T (k j : Nat) : Prop := (k = 551 ∧ j = 17) ∨ k = 561
def rc_e (k j : Nat) : Prop := k = 541 ∧ j = 1
def ry_e (k j : Nat) : Prop := k = 551 ∧ j = 17
def rc_p (k j : Nat) : Prop := (k = 541 ∧ (j = 1 ∨ j = 4 ∨ j = 5)) ∨ (k = 47 ∧ j = 2) ∨ (49 ≤ k ∧ k < 55) ∨ (k = 1 ∧ j = 10)
def rc_P (k j : Nat) : Prop := k = 541 ∧ (j = 1 ∨ j = 4 ∨ j = 5)
def ry_p (k j : Nat) : Prop := (k = 551 ∧ (j = 17 ∨ j = 25 ∨ j = 26 ∨ j = 27)) ∨ k = 563 ∨ (k = 552 ∧ j = 10)
def ry_P (k j : Nat) : Prop := (k = 551 ∧ (j = 25 ∨ j = 26 ∨ j = 27)) ∨ k = 563 ∨ (k = 552 ∧ j = 10)
def rc_r (k j : Nat) : Prop := (k = 8 ∧ j = 2) ∨ (k = 1 ∧ (j = 10 ∨ j = 11))
def ry_r (k j : Nat) : Prop := k = 552 ∧ (j = 6 ∨ j = 7 ∨ j = 10)
def rc_it (k j : Nat) : Prop := (181 ≤ k ∧ k < 361) ∨ (k = 0 ∧ j = 4)
def ry_it (k j : Nat) : Prop := k = 564 ∨ (k = 551 ∧ j = 29)
def rc_iu (k _ : Nat) : Prop := 1 ≤ k ∧ k < 181
def ry_iu (k j : Nat) : Prop := k = 552 ∨ k = 563 ∨ (k = 551 ∧ (j = 27 ∨ j = 29))
def ry_w (k _ : Nat) : Prop := k = 552
theorem f_F_rc_T {iv iv' : Iv} (h : SI (spU rc_T) iv iv') (w : RF iv) : RF iv' := rF_f (fun k j z => ag h (u9_F z) (by unfold c9F at z; unfold rc_T; omega)) w
theorem f_F_rc_d {iv iv' : Iv} (h : SI (spU rc_d) iv iv') (w : RF iv) : RF iv' := rF_f (fun k j z => ag h (u9_F z) (by unfold c9F at z; unfold rc_d; omega)) w
theorem f_F_rc_e {iv iv' : Iv} (h : SI (spU rc_e) iv iv') (w : RF iv) : RF iv' := rF_f (fun k j z => ag h (u9_F z) (by unfold c9F at z; unfold rc_e; omega)) w
theorem f_F_rc_m {iv iv' : Iv} (h : SI (spU rc_m) iv iv') (w : RF iv) : RF iv' := rF_f (fun k j z => ag h (u9_F z) (by unfold c9F at z; unfold rc_m; omega)) w
theorem f_F_rc_t {iv iv' : Iv} (h : SI (spU rc_t) iv iv') (w : RF iv) : RF iv' := rF_f (fun k j z => ag h (u9_F z) (by unfold c9F at z; unfold rc_t; omega)) w
theorem f_F_ry_T {iv iv' : Iv} (h : SI (spU ry_T) iv iv') (w : RF iv) : RF iv' := rF_f (fun k j z => ag h (u9_F z) (by unfold c9F at z; unfold ry_T; omega)) w
theorem f_F_ry_d {iv iv' : Iv} (h : SI (spU ry_d) iv iv') (w : RF iv) : RF iv' := rF_f (fun k j z => ag h (u9_F z) (by unfold c9F at z; unfold ry_d; omega)) w
theorem f_F_ry_e {iv iv' : Iv} (h : SI (spU ry_e) iv iv') (w : RF iv) : RF iv' := rF_f (fun k j z => ag h (u9_F z) (by unfold c9F at z; unfold ry_e; omega)) w
theorem f_F_ry_m {iv iv' : Iv} (h : SI (spU ry_m) iv iv') (w : RF iv) : RF iv' := rF_f (fun k j z => ag h (u9_F z) (by unfold c9F at z; unfold ry_m; omega)) w
theorem f_F_ry_t {iv iv' : Iv} (h : SI (spU ry_t) iv iv') (w : RF iv) : RF iv' := rF_f (fun k j z => ag h (u9_F z) (by unfold c9F at z; unfold ry_t; omega)) w
theorem f_I_rc_T {iv iv' : Iv} (h : SI (spU rc_T) iv iv') (w : RI iv) : RI iv' := rI_f (fun k j z => ag h (u9_I z) (by unfold c9I at z; unfold rc_T; omega)) w
theorem f_I_rc_d {iv iv' : Iv} (h : SI (spU rc_d) iv iv') (w : RI iv) : RI iv' := rI_f (fun k j z => ag h (u9_I z) (by unfold c9I at z; unfold rc_d; omega)) w
theorem f_I_rc_e {iv iv' : Iv} (h : SI (spU rc_e) iv iv') (w : RI iv) : RI iv' := rI_f (fun k j z => ag h (u9_I z) (by unfold c9I at z; unfold rc_e; omega)) w
theorem f_I_rc_m {iv iv' : Iv} (h : SI (spU rc_m) iv iv') (w : RI iv) : RI iv' := rI_f (fun k j z => ag h (u9_I z) (by unfold c9I at z; unfold rc_m; omega)) w
theorem f_I_rc_t {iv iv' : Iv} (h : SI (spU rc_t) iv iv') (w : RI iv) : RI iv' := rI_f (fun k j z => ag h (u9_I z) (by unfold c9I at z; unfold rc_t; omega)) w
theorem f_I_ry_T {iv iv' : Iv} (h : SI (spU ry_T) iv iv') (w : RI iv) : RI iv' := rI_f (fun k j z => ag h (u9_I z) (by unfold c9I at z; unfold ry_T; omega)) w
theorem f_I_ry_d {iv iv' : Iv} (h : SI (spU ry_d) iv iv') (w : RI iv) : RI iv' := rI_f (fun k j z => ag h (u9_I z) (by unfold c9I at z; unfold ry_d; omega)) w
theorem f_I_ry_e {iv iv' : Iv} (h : SI (spU ry_e) iv iv') (w : RI iv) : RI iv' := rI_f (fun k j z => ag h (u9_I z) (by unfold c9I at z; unfold ry_e; omega)) w
theorem f_I_ry_m {iv iv' : Iv} (h : SI (spU ry_m) iv iv') (w : RI iv) : RI iv' := rI_f (fun k j z => ag h (u9_I z) (by unfold c9I at z; unfold ry_m; omega)) w
theorem f_I_ry_t {iv iv' : Iv} (h : SI (spU ry_t) iv iv') (w : RI iv) : RI iv' := rI_f (fun k j z => ag h (u9_I z) (by unfold c9I at z; unfold ry_t; omega)) w
theorem f_T_rc_d {iv iv' : Iv} (h : SI (spU rc_d) iv iv') (w : RT iv) : RT iv' := rT_f (fun k j z => ag h (u9_T z) (by unfold c9T at z; unfold rc_d; omega)) w
theorem f_T_rc_m {iv iv' : Iv} (h : SI (spU rc_m) iv iv') (w : RT iv) : RT iv' := rT_f (fun k j z => ag h (u9_T z) (by unfold c9T at z; unfold rc_m; omega)) w
theorem f_T_rc_t {iv iv' : Iv} (h : SI (spU rc_t) iv iv') (w : RT iv) : RT iv' := rT_f (fun k j z => ag h (u9_T z) (by unfold c9T at z; unfold rc_t; omega)) w
theorem f_T_ry_d {iv iv' : Iv} (h : SI (spU ry_d) iv iv') (w : RT iv) : RT iv' := rT_f (fun k j z => ag h (u9_T z) (by unfold c9T at z; unfold ry_d; omega)) w
theorem f_T_ry_m {iv iv' : Iv} (h : SI (spU ry_m) iv iv') (w : RT iv) : RT iv' := rT_f (fun k j z => ag h (u9_T z) (by unfold c9T at z; unfold ry_m; omega)) w
theorem f_T_ry_t {iv iv' : Iv} (h : SI (spU ry_t) iv iv') (w : RT iv) : RT iv' := rT_f (fun k j z => ag h (u9_T z) (by unfold c9T at z; unfold ry_t; omega)) w
theorem f_W_rc_T {iv iv' : Iv} (h : SI (spU rc_T) iv iv') (w : RW iv) : RW iv' := rW_f (fun k j z => ag h (u9_W z) (by unfold c9W at z; unfold rc_T; omega)) w
theorem f_W_rc_d {iv iv' : Iv} (h : SI (spU rc_d) iv iv') (w : RW iv) : RW iv' := rW_f (fun k j z => ag h (u9_W z) (by unfold c9W at z; unfold rc_d; omega)) w
theorem f_W_rc_e {iv iv' : Iv} (h : SI (spU rc_e) iv iv') (w : RW iv) : RW iv' := rW_f (fun k j z => ag h (u9_W z) (by unfold c9W at z; unfold rc_e; omega)) w
theorem f_W_rc_m {iv iv' : Iv} (h : SI (spU rc_m) iv iv') (w : RW iv) : RW iv' := rW_f (fun k j z => ag h (u9_W z) (by unfold c9W at z; unfold rc_m; omega)) w
theorem f_W_rc_t {iv iv' : Iv} (h : SI (spU rc_t) iv iv') (w : RW iv) : RW iv' := rW_f (fun k j z => ag h (u9_W z) (by unfold c9W at z; unfold rc_t; omega)) w
theorem f_W_ry_T {iv iv' : Iv} (h : SI (spU ry_T) iv iv') (w : RW iv) : RW iv' := rW_f (fun k j z => ag h (u9_W z) (by unfold c9W at z; unfold ry_T; omega)) w
theorem f_W_ry_d {iv iv' : Iv} (h : SI (spU ry_d) iv iv') (w : RW iv) : RW iv' := rW_f (fun k j z => ag h (u9_W z) (by unfold c9W at z; unfold ry_d; omega)) w
theorem f_W_ry_e {iv iv' : Iv} (h : SI (spU ry_e) iv iv') (w : RW iv) : RW iv' := rW_f (fun k j z => ag h (u9_W z) (by unfold c9W at z; unfold ry_e; omega)) w
theorem f_W_ry_m {iv iv' : Iv} (h : SI (spU ry_m) iv iv') (w : RW iv) : RW iv' := rW_f (fun k j z => ag h (u9_W z) (by unfold c9W at z; unfold ry_m; omega)) w
theorem f_W_ry_t {iv iv' : Iv} (h : SI (spU ry_t) iv iv') (w : RW iv) : RW iv' := rW_f (fun k j z => ag h (u9_W z) (by unfold c9W at z; unfold ry_t; omega)) w
theorem f_d_rc_T {iv iv' : Iv} (h : SI (spU rc_T) iv iv') (w : Rd iv) : Rd iv' := rd_f (fun k j z => ag h (u9_d z) (by unfold c9d at z; unfold rc_T; omega)) w
theorem f_d_rc_e {iv iv' : Iv} (h : SI (spU rc_e) iv iv') (w : Rd iv) : Rd iv' := rd_f (fun k j z => ag h (u9_d z) (by unfold c9d at z; unfold rc_e; omega)) w
theorem f_d_rc_m {iv iv' : Iv} (h : SI (spU rc_m) iv iv') (w : Rd iv) : Rd iv' := rd_f (fun k j z => ag h (u9_d z) (by unfold c9d at z; unfold rc_m; omega)) w
theorem f_d_rc_t {iv iv' : Iv} (h : SI (spU rc_t) iv iv') (w : Rd iv) : Rd iv' := rd_f (fun k j z => ag h (u9_d z) (by unfold c9d at z; unfold rc_t; omega)) w
theorem f_d_ry_T {iv iv' : Iv} (h : SI (spU ry_T) iv iv') (w : Rd iv) : Rd iv' := rd_f (fun k j z => ag h (u9_d z) (by unfold c9d at z; unfold ry_T; omega)) w
theorem f_d_ry_e {iv iv' : Iv} (h : SI (spU ry_e) iv iv') (w : Rd iv) : Rd iv' := rd_f (fun k j z => ag h (u9_d z) (by unfold c9d at z; unfold ry_e; omega)) w
theorem f_d_ry_m {iv iv' : Iv} (h : SI (spU ry_m) iv iv') (w : Rd iv) : Rd iv' := rd_f (fun k j z => ag h (u9_d z) (by unfold c9d at z; unfold ry_m; omega)) w
theorem f_d_ry_t {iv iv' : Iv} (h : SI (spU ry_t) iv iv') (w : Rd iv) : Rd iv' := rd_f (fun k j z => ag h (u9_d z) (by unfold c9d at z; unfold ry_t; omega)) w
theorem f_m_rc_T {iv iv' : Iv} (h : SI (spU rc_T) iv iv') (w : Rm iv) : Rm iv' := rm_f (fun k j z => ag h (u9_m z) (by unfold c9m at z; unfold rc_T; omega)) w
theorem f_m_rc_d {iv iv' : Iv} (h : SI (spU rc_d) iv iv') (w : Rm iv) : Rm iv' := rm_f (fun k j z => ag h (u9_m z) (by unfold c9m at z; unfold rc_d; omega)) w
theorem f_m_rc_e {iv iv' : Iv} (h : SI (spU rc_e) iv iv') (w : Rm iv) : Rm iv' := rm_f (fun k j z => ag h (u9_m z) (by unfold c9m at z; unfold rc_e; omega)) w
theorem f_m_rc_t {iv iv' : Iv} (h : SI (spU rc_t) iv iv') (w : Rm iv) : Rm iv' := rm_f (fun k j z => ag h (u9_m z) (by unfold c9m at z; unfold rc_t; omega)) w
theorem f_m_ry_T {iv iv' : Iv} (h : SI (spU ry_T) iv iv') (w : Rm iv) : Rm iv' := rm_f (fun k j z => ag h (u9_m z) (by unfold c9m at z; unfold ry_T; omega)) w
theorem f_m_ry_d {iv iv' : Iv} (h : SI (spU ry_d) iv iv') (w : Rm iv) : Rm iv' := rm_f (fun k j z => ag h (u9_m z) (by unfold c9m at z; unfold ry_d; omega)) w
theorem f_m_ry_e {iv iv' : Iv} (h : SI (spU ry_e) iv iv') (w : Rm iv) : Rm iv' := rm_f (fun k j z => ag h (u9_m z) (by unfold c9m at z; unfold ry_e; omega)) w
theorem f_m_ry_t {iv iv' : Iv} (h : SI (spU ry_t) iv iv') (w : Rm iv) : Rm iv' := rm_f (fun k j z => ag h (u9_m z) (by unfold c9m at z; unfold ry_t; omega)) w
theorem f_p_rc_T {iv iv' : Iv} (h : SI (spU rc_T) iv iv') (w : Rp iv) : Rp iv' := rp_f (fun k j z => ag h (u9_p z) (by unfold c9p at z; unfold rc_T; omega)) w
theorem f_p_rc_d {iv iv' : Iv} (h : SI (spU rc_d) iv iv') (w : Rp iv) : Rp iv' := rp_f (fun k j z => ag h (u9_p z) (by unfold c9p at z; unfold rc_d; omega)) w
theorem f_p_rc_e {iv iv' : Iv} (h : SI (spU rc_e) iv iv') (w : Rp iv) : Rp iv' := rp_f (fun k j z => ag h (u9_p z) (by unfold c9p at z; unfold rc_e; omega)) w
theorem f_p_rc_m {iv iv' : Iv} (h : SI (spU rc_m) iv iv') (w : Rp iv) : Rp iv' := rp_f (fun k j z => ag h (u9_p z) (by unfold c9p at z; unfold rc_m; omega)) w
theorem f_p_rc_t {iv iv' : Iv} (h : SI (spU rc_t) iv iv') (w : Rp iv) : Rp iv' := rp_f (fun k j z => ag h (u9_p z) (by unfold c9p at z; unfold rc_t; omega)) w
theorem f_p_ry_T {iv iv' : Iv} (h : SI (spU ry_T) iv iv') (w : Rp iv) : Rp iv' := rp_f (fun k j z => ag h (u9_p z) (by unfold c9p at z; unfold ry_T; omega)) w
theorem f_p_ry_d {iv iv' : Iv} (h : SI (spU ry_d) iv iv') (w : Rp iv) : Rp iv' := rp_f (fun k j z => ag h (u9_p z) (by unfold c9p at z; unfold ry_d; omega)) w
theorem f_p_ry_e {iv iv' : Iv} (h : SI (spU ry_e) iv iv') (w : Rp iv) : Rp iv' := rp_f (fun k j z => ag h (u9_p z) (by unfold c9p at z; unfold ry_e; omega)) w
theorem f_p_ry_m {iv iv' : Iv} (h : SI (spU ry_m) iv iv') (w : Rp iv) : Rp iv' := rp_f (fun k j z => ag h (u9_p z) (by unfold c9p at z; unfold ry_m; omega)) w
theorem f_p_ry_t {iv iv' : Iv} (h : SI (spU ry_t) iv iv') (w : Rp iv) : Rp iv' := rp_f (fun k j z => ag h (u9_p z) (by unfold c9p at z; unfold ry_t; omega)) w
theorem f_q_rc_T {iv iv' : Iv} (h : SI (spU rc_T) iv iv') (w : Rq iv) : Rq iv' := rq_f (fun k j z => ag h (u9_q z) (by unfold c9q at z; unfold rc_T; omega)) w
theorem f_q_rc_d {iv iv' : Iv} (h : SI (spU rc_d) iv iv') (w : Rq iv) : Rq iv' := rq_f (fun k j z => ag h (u9_q z) (by unfold c9q at z; unfold rc_d; omega)) w
theorem f_q_rc_e {iv iv' : Iv} (h : SI (spU rc_e) iv iv') (w : Rq iv) : Rq iv' := rq_f (fun k j z => ag h (u9_q z) (by unfold c9q at z; unfold rc_e; omega)) w
theorem f_q_rc_m {iv iv' : Iv} (h : SI (spU rc_m) iv iv') (w : Rq iv) : Rq iv' := rq_f (fun k j z => ag h (u9_q z) (by unfold c9q at z; unfold rc_m; omega)) w
theorem f_q_rc_t {iv iv' : Iv} (h : SI (spU rc_t) iv iv') (w : Rq iv) : Rq iv' := rq_f (fun k j z => ag h (u9_q z) (by unfold c9q at z; unfold rc_t; omega)) w
theorem f_q_ry_T {iv iv' : Iv} (h : SI (spU ry_T) iv iv') (w : Rq iv) : Rq iv' := rq_f (fun k j z => ag h (u9_q z) (by unfold c9q at z; unfold ry_T; omega)) w
theorem f_q_ry_d {iv iv' : Iv} (h : SI (spU ry_d) iv iv') (w : Rq iv) : Rq iv' := rq_f (fun k j z => ag h (u9_q z) (by unfold c9q at z; unfold ry_d; omega)) w
theorem f_q_ry_e {iv iv' : Iv} (h : SI (spU ry_e) iv iv') (w : Rq iv) : Rq iv' := rq_f (fun k j z => ag h (u9_q z) (by unfold c9q at z; unfold ry_e; omega)) w
theorem f_q_ry_m {iv iv' : Iv} (h : SI (spU ry_m) iv iv') (w : Rq iv) : Rq iv' := rq_f (fun k j z => ag h (u9_q z) (by unfold c9q at z; unfold ry_m; omega)) w
theorem f_q_ry_t {iv iv' : Iv} (h : SI (spU ry_t) iv iv') (w : Rq iv) : Rq iv' := rq_f (fun k j z => ag h (u9_q z) (by unfold c9q at z; unfold ry_t; omega)) w
theorem f_t_rc_T {iv iv' : Iv} (h : SI (spU rc_T) iv iv') (w : Rt iv) : Rt iv' := rt_f (fun k j z => ag h (u9_t z) (by unfold c9t at z; unfold rc_T; omega)) w
theorem f_t_rc_d {iv iv' : Iv} (h : SI (spU rc_d) iv iv') (w : Rt iv) : Rt iv' := rt_f (fun k j z => ag h (u9_t z) (by unfold c9t at z; unfold rc_d; omega)) w
theorem f_t_rc_e {iv iv' : Iv} (h : SI (spU rc_e) iv iv') (w : Rt iv) : Rt iv' := rt_f (fun k j z => ag h (u9_t z) (by unfold c9t at z; unfold rc_e; omega)) w
theorem f_t_rc_m {iv iv' : Iv} (h : SI (spU rc_m) iv iv') (w : Rt iv) : Rt iv' := rt_f (fun k j z => ag h (u9_t z) (by unfold c9t at z; unfold rc_m; omega)) w
theorem f_t_ry_T {iv iv' : Iv} (h : SI (spU ry_T) iv iv') (w : Rt iv) : Rt iv' := rt_f (fun k j z => ag h (u9_t z) (by unfold c9t at z; unfold ry_T; omega)) w
theorem f_t_ry_d {iv iv' : Iv} (h : SI (spU ry_d) iv iv') (w : Rt iv) : Rt iv' := rt_f (fun k j z => ag h (u9_t z) (by unfold c9t at z; unfold ry_d; omega)) w
theorem f_t_ry_e {iv iv' : Iv} (h : SI (spU ry_e) iv iv') (w : Rt iv) : Rt iv' := rt_f (fun k j z => ag h (u9_t z) (by unfold c9t at z; unfold ry_e; omega)) w
theorem f_t_ry_m {iv iv' : Iv} (h : SI (spU ry_m) iv iv') (w : Rt iv) : Rt iv' := rt_f (fun k j z => ag h (u9_t z) (by unfold c9t at z; unfold ry_m; omega)) w
theorem v_X8_tell (g : GE) {iv : Iv} {lv : Lv} {a1 : Int32} {a2 : Int32} {a3 : Int32} {a4 : Int32}  (hG : SI s0 z0 iv) (hR : RV iv) : ConI g yX8_tell cX8_tell 6 (some .boolean) 3 [rf g 0, .int a1, .int a2, .int a3, .int a4] iv lv (fun r iv lv => SI s0 z0 iv ∧ RV iv ∧ r = bi (TlOk (iv 2 0) a1 a2 a3 a4)) := by
  refine con_mono (e_X8_tell g (si_u (rm := rmN) hG) rfl) (fun r iv' lv' h => ⟨si_0 h.1, rv_fr h.1 hR, ?_⟩)
  rw [show iv' 2 0 = iv 2 0 from (ag h.1 (k := 2) (j := 0) (by unfold uK c9m c9t c9d c9p c9q c9T c9F c9I c9W; omega) (by unfold rmN; omega))]
  exact h.2.2.2.2.2
theorem v_X9_tell (g : GE) {iv : Iv} {lv : Lv} {a1 : Int32} {a2 : Int32} {a3 : Int32} {a4 : Int32} {r0 : Int32} (hG : SI s0 z0 iv) (hM : RV iv ∧ r0 = bi (TlOk (iv 2 0) a1 a2 a3 a4)) : ConI g yX9_tell cX9_tell 5 (some .boolean) 3 [rf g 551, .int a1, .int a2, .int a3, .int a4] iv lv (fun r iv lv => SI s0 z0 iv ∧ RV iv ∧ r = r0) := by
  exact con_mono (e_X9_tell g (si_u (rm := rmN) hG) (si_c hG (k := 2) (j := 0) rfl) hM.1.1) (fun r iv' lv' h => ⟨si_0 h.1, rv_fr h.1 hM.1, h.2.2.2.2.2.trans hM.2.symm⟩)
theorem v_X8_suspend (g : GE) {iv : Iv} {lv : Lv} {a1 : Int32} {a2 : Int32}  (hG : SI s0 z0 iv) (hR : RV iv) : ConI g yX8_suspend cX8_suspend 3 (some .boolean) 2 [rf g 0, .int a1, .int a2] iv lv (fun r iv lv => SI s0 z0 iv ∧ RV iv ∧ r = bi (Mb (iv 2 0) a1)) := by
  refine con_mono (e_X8_suspend g (si_u (rm := rmN) hG) rfl) (fun r iv' lv' h => ⟨si_0 h.1, rv_fr h.1 hR, ?_⟩)
  rw [show iv' 2 0 = iv 2 0 from (ag h.1 (k := 2) (j := 0) (by unfold uK c9m c9t c9d c9p c9q c9T c9F c9I c9W; omega) (by unfold rmN; omega))]
  exact h.2.2.2
theorem v_X9_suspend (g : GE) {iv : Iv} {lv : Lv} {a1 : Int32} {a2 : Int32} {r0 : Int32} (hG : SI s0 z0 iv) (hM : RV iv ∧ r0 = bi (Mb (iv 2 0) a1)) : ConI g yX9_suspend cX9_suspend 3 (some .boolean) 3 [rf g 551, .int a1, .int a2] iv lv (fun r iv lv => SI s0 z0 iv ∧ RV iv ∧ r = r0) := by
  exact con_mono (e_X9_suspend g (si_u (rm := rmN) hG) (si_c hG (k := 2) (j := 0) rfl) hM.1.1) (fun r iv' lv' h => ⟨si_0 h.1, rv_fr h.1 hM.1, h.2.2.2.trans hM.2.symm⟩)
theorem v_X8_collateral (g : GE) {iv : Iv} {lv : Lv} {a1 : Int32} {a2 : Int32}  (hG : SI s0 z0 iv) (hR : RV iv) : ConI g yX8_collateral cX8_collateral 3 (some .boolean) 2 [rf g 0, .int a1, .int a2] iv lv (fun r iv lv => SI s0 z0 iv ∧ RV iv ∧ r = bi (CoOk (iv 2 0) a1 a2)) := by
  refine con_mono (e_X8_collateral g (si_u (rm := rmN) hG) rfl) (fun r iv' lv' h => ⟨si_0 h.1, rv_fr h.1 hR, ?_⟩)
  rw [show iv' 2 0 = iv 2 0 from (ag h.1 (k := 2) (j := 0) (by unfold uK c9m c9t c9d c9p c9q c9T c9F c9I c9W; omega) (by unfold rmN; omega))]
  exact h.2.2.2.2
theorem v_X9_collateral (g : GE) {iv : Iv} {lv : Lv} {a1 : Int32} {a2 : Int32} {r0 : Int32} (hG : SI s0 z0 iv) (hM : RV iv ∧ r0 = bi (CoOk (iv 2 0) a1 a2)) : ConI g yX9_collateral cX9_collateral 3 (some .boolean) 3 [rf g 551, .int a1, .int a2] iv lv (fun r iv lv => SI s0 z0 iv ∧ RV iv ∧ r = r0) := by
  exact con_mono (e_X9_collateral g (si_u (rm := rmN) hG) (si_c hG (k := 2) (j := 0) rfl) hM.1.1) (fun r iv' lv' h => ⟨si_0 h.1, rv_fr h.1 hM.1, h.2.2.2.2.trans hM.2.symm⟩)
theorem v_X8_fault (g : GE) {iv : Iv} {lv : Lv} {a1 : Int32}  (hG : SI s0 z0 iv) (hR : RV iv) : ConI g yX8_fault cX8_fault 2 (some .int) 1 [rf g 0, .int a1] iv lv (fun r iv lv => SI s0 z0 iv ∧ RV iv ∧ r = fu_x a1 (iv 541 4) (iv 541 5)) := by
  exact con_mono (e_X8_fault g rfl rfl) (fun r iv' lv' h => by
    obtain ⟨h1, h2, h3⟩ := h
    subst h2
    exact ⟨hG, hR, h1⟩)
theorem v_X9_fault (g : GE) {iv : Iv} {lv : Lv} {a1 : Int32} {r0 : Int32} (hG : SI s0 z0 iv) (hM : RV iv ∧ r0 = fu_x a1 (iv 541 4) (iv 541 5)) : ConI g yX9_fault cX9_fault 2 (some .int) 1 [rf g 551, .int a1] iv lv (fun r iv lv => SI s0 z0 iv ∧ RV iv ∧ r = r0) := by
  obtain ⟨hR, hr⟩ := hM
  exact con_mono (e_X9_fault g (si_u (rm := rmN) hG) hR.2.2.2.2.2.2.1.1 hR.2.2.2.2.2.2.1.2) (fun r iv' lv' h => ⟨si_0 h.1, rv_fr h.1 hR, h.2.trans hr.symm⟩)
def MSet (a1 a2 r : Int32) (iv : Iv) : Prop := ∃ m n : Int32, Ra 2 12 m ∧ (iv 552 0).toInt + 6 = m.toInt ∧ iv 8 2 = n ∧ r = bi (SeOk n a1 a2) ∧ iv 2 0 = sel (SeOk n a1 a2 ∧ a1 = nI 0) a2 m ∧ Rt iv ∧ Rd iv ∧ Rp iv ∧ Rq iv ∧ RT iv ∧ RF iv ∧ RI iv ∧ RW iv
theorem v_X8_set (g : GE) {iv : Iv} {lv : Lv} {a1 : Int32} {a2 : Int32}  (hG : SI s0 z0 iv) (hR : RV iv) : ConI g yX8_set cX8_set 3 (some .boolean) 2 [rf g 0, .int a1, .int a2] iv lv (fun r iv lv => SI s0 z0 iv ∧ MSet a1 a2 r iv) := by
  refine con_mono (e_X8_set g (si_u (rm := rc_m) hG) spU_k (spf (fun z => z.2 (by unfold rc_m; omega))) rfl rfl) (fun r iv' lv' h => ⟨si_0 h.1, iv 2 0, iv 8 2, (si_c hG (k := 2) (j := 0) rfl), ?_, (ag h.1 (k := 8) (j := 2) (by unfold uK c9m c9t c9d c9p c9q c9T c9F c9I c9W; omega) (by unfold rc_m; omega)), h.2.1, h.2.2, (f_t_rc_m h.1 hR.2.1), (f_d_rc_m h.1 hR.2.2.1), (f_p_rc_m h.1 hR.2.2.2.1), (f_q_rc_m h.1 hR.2.2.2.2.1), (f_T_rc_m h.1 hR.2.2.2.2.2.1), (f_F_rc_m h.1 hR.2.2.2.2.2.2.1), (f_I_rc_m h.1 hR.2.2.2.2.2.2.2.1), (f_W_rc_m h.1 hR.2.2.2.2.2.2.2.2)⟩)
  rw [show iv' 552 0 = iv 552 0 from (ag h.1 (k := 552) (j := 0) (by unfold uK c9m c9t c9d c9p c9q c9T c9F c9I c9W; omega) (by unfold rc_m; omega))]; exact hR.1
theorem v_X9_set (g : GE) {iv : Iv} {lv : Lv} {a1 : Int32} {a2 : Int32} {r0 : Int32} (hG : SI s0 z0 iv) (hM : MSet a1 a2 r0 iv) : ConI g yX9_set cX9_set 3 (some .boolean) 3 [rf g 551, .int a1, .int a2] iv lv (fun r iv lv => SI s0 z0 iv ∧ RV iv ∧ r = r0) := by
  obtain ⟨m, n, hm, em, en, hr, hs, wt, wd, wp, wq, wT, wF, wI, wW⟩ := hM
  refine con_mono (e_X9_set2 g (si_u (rm := ry_m) hG) spU_k (spf (fun z => z.2 (by unfold ry_m; omega))) hm em (wt.trans en)) (fun r iv' lv' h => ⟨si_0 h.1, ⟨?_, (f_t_ry_m h.1 wt), (f_d_ry_m h.1 wd), (f_p_ry_m h.1 wp), (f_q_ry_m h.1 wq), (f_T_ry_m h.1 wT), (f_F_ry_m h.1 wF), (f_I_ry_m h.1 wI), (f_W_ry_m h.1 wW)⟩, h.2.1.trans hr.symm⟩)
  show (iv' 552 0).toInt + 6 = (iv' 2 0).toInt
  rw [show iv' 2 0 = iv 2 0 from (ag h.1 (k := 2) (j := 0) (by unfold uK c9m c9t c9d c9p c9q c9T c9F c9I c9W; omega) (by unfold ry_m; omega)), hs]; exact h.2.2
def MTr (a1 a2 a3 a4 a5 r : Int32) (iv : Iv) : Prop := TrP (iv 2 0) (iv 552 7) a1 a2 a3 a4 a5 r (iv 8 2) ∧ Rm iv ∧ Rd iv ∧ Rp iv ∧ Rq iv ∧ RT iv ∧ RF iv ∧ RI iv ∧ RW iv
theorem v_X8_trade (g : GE) {iv : Iv} {lv : Lv} {a1 : Int32} {a2 : Int32} {a3 : Int32} {a4 : Int32} {a5 : Int32}  (hG : SI s0 z0 iv) (hR : RV iv) : ConI g yX8_trade cX8_trade 6 (some .int) 4 [rf g 0, .int a1, .int a2, .int a3, .int a4, .int a5] iv lv (fun r iv lv => SI s0 z0 iv ∧ MTr a1 a2 a3 a4 a5 r iv) := by
  refine con_mono (e_X8_trade g (si_u (rm := rc_t) hG) spU_k (spf (fun z => z.2 (by unfold rc_t; omega))) rfl hR.2.1.symm) (fun r iv' lv' h => ⟨si_0 h.1, ?_, (f_m_rc_t h.1 hR.1), (f_d_rc_t h.1 hR.2.2.1), (f_p_rc_t h.1 hR.2.2.2.1), (f_q_rc_t h.1 hR.2.2.2.2.1), (f_T_rc_t h.1 hR.2.2.2.2.2.1), (f_F_rc_t h.1 hR.2.2.2.2.2.2.1), (f_I_rc_t h.1 hR.2.2.2.2.2.2.2.1), (f_W_rc_t h.1 hR.2.2.2.2.2.2.2.2)⟩)
  rw [show iv' 552 7 = iv 552 7 from (ag h.1 (k := 552) (j := 7) (by unfold uK c9m c9t c9d c9p c9q c9T c9F c9I c9W; omega) (by unfold rc_t; omega)), show iv' 2 0 = iv 2 0 from (ag h.1 (k := 2) (j := 0) (by unfold uK c9m c9t c9d c9p c9q c9T c9F c9I c9W; omega) (by unfold rc_t; omega))]; exact h.2.2
theorem v_X9_trade (g : GE) {iv : Iv} {lv : Lv} {a1 : Int32} {a2 : Int32} {a3 : Int32} {a4 : Int32} {a5 : Int32} {r0 : Int32} (hG : SI s0 z0 iv) (hM : MTr a1 a2 a3 a4 a5 r0 iv) : ConI g yX9_trade cX9_trade 6 (some .int) 4 [rf g 551, .int a1, .int a2, .int a3, .int a4, .int a5] iv lv (fun r iv lv => SI s0 z0 iv ∧ RV iv ∧ r = r0) := by
  obtain ⟨hp, wm, wd, wp, wq, wT, wF, wI, wW⟩ := hM
  refine con_mono (e_X9_trade g (si_u (rm := ry_t) hG) (spf (fun z => z.2 (by unfold ry_t; omega))) (si_c hG (k := 2) (j := 0) rfl) wm rfl) (fun r iv' lv' h => ?_)
  have e := trp_eq h.2.2 hp
  refine ⟨si_0 h.1, ⟨(f_m_ry_t h.1 wm), ?_, (f_d_ry_t h.1 wd), (f_p_ry_t h.1 wp), (f_q_ry_t h.1 wq), (f_T_ry_t h.1 wT), (f_F_ry_t h.1 wF), (f_I_ry_t h.1 wI), (f_W_ry_t h.1 wW)⟩, e.1⟩
  show iv' 552 7 = iv' 8 2
  rw [show iv' 8 2 = iv 8 2 from (ag h.1 (k := 8) (j := 2) (by unfold uK c9m c9t c9d c9p c9q c9T c9F c9I c9W; omega) (by unfold ry_t; omega))]; exact e.2
theorem v_X8_apart (g : GE) {iv : Iv} {lv : Lv} {a1 : Int32} {a2 : Int32} {a3 : Int32} {a4 : Int32} {a5 : Int32}  (hG : SI s0 z0 iv) (hR : RV iv) : ConI g yX8_apart cX8_apart 6 (some .int) 4 [rf g 0, .int a1, .int a2, .int a3, .int a4, .int a5] iv lv (fun r iv lv => SI s0 z0 iv ∧ MTr a1 a2 a3 a4 a5 r iv) := by
  refine con_mono (e_X8_apart g (si_u (rm := rc_t) hG) spU_k (spf (fun z => z.2 (by unfold rc_t; omega))) rfl hR.2.1.symm) (fun r iv' lv' h => ⟨si_0 h.1, ?_, (f_m_rc_t h.1 hR.1), (f_d_rc_t h.1 hR.2.2.1), (f_p_rc_t h.1 hR.2.2.2.1), (f_q_rc_t h.1 hR.2.2.2.2.1), (f_T_rc_t h.1 hR.2.2.2.2.2.1), (f_F_rc_t h.1 hR.2.2.2.2.2.2.1), (f_I_rc_t h.1 hR.2.2.2.2.2.2.2.1), (f_W_rc_t h.1 hR.2.2.2.2.2.2.2.2)⟩)
  rw [show iv' 552 7 = iv 552 7 from (ag h.1 (k := 552) (j := 7) (by unfold uK c9m c9t c9d c9p c9q c9T c9F c9I c9W; omega) (by unfold rc_t; omega)), show iv' 2 0 = iv 2 0 from (ag h.1 (k := 2) (j := 0) (by unfold uK c9m c9t c9d c9p c9q c9T c9F c9I c9W; omega) (by unfold rc_t; omega))]; exact h.2.2
theorem v_X9_apart (g : GE) {iv : Iv} {lv : Lv} {a1 : Int32} {a2 : Int32} {a3 : Int32} {a4 : Int32} {a5 : Int32} {r0 : Int32} (hG : SI s0 z0 iv) (hM : MTr a1 a2 a3 a4 a5 r0 iv) : ConI g yX9_apart cX9_apart 6 (some .int) 4 [rf g 551, .int a1, .int a2, .int a3, .int a4, .int a5] iv lv (fun r iv lv => SI s0 z0 iv ∧ RV iv ∧ r = r0) := by
  obtain ⟨hp, wm, wd, wp, wq, wT, wF, wI, wW⟩ := hM
  refine con_mono (e_X9_apart g (si_u (rm := ry_t) hG) (spf (fun z => z.2 (by unfold ry_t; omega))) (si_c hG (k := 2) (j := 0) rfl) wm rfl) (fun r iv' lv' h => ?_)
  have e := trp_eq h.2.2 hp
  refine ⟨si_0 h.1, ⟨(f_m_ry_t h.1 wm), ?_, (f_d_ry_t h.1 wd), (f_p_ry_t h.1 wp), (f_q_ry_t h.1 wq), (f_T_ry_t h.1 wT), (f_F_ry_t h.1 wF), (f_I_ry_t h.1 wI), (f_W_ry_t h.1 wW)⟩, e.1⟩
  show iv' 552 7 = iv' 8 2
  rw [show iv' 8 2 = iv 8 2 from (ag h.1 (k := 8) (j := 2) (by unfold uK c9m c9t c9d c9p c9q c9T c9F c9I c9W; omega) (by unfold ry_t; omega))]; exact e.2
def MNg (a1 r : Int32) (iv : Iv) : Prop := NgP (iv 552 6) a1 r (iv 1 11) ∧ Rm iv ∧ Rt iv ∧ Rp iv ∧ Rq iv ∧ RT iv ∧ RF iv ∧ RI iv ∧ RW iv
theorem v_X8_night (g : GE) {iv : Iv} {lv : Lv} {a1 : Int32}  (hG : SI s0 z0 iv) (hR : RV iv) : ConI g yX8_night cX8_night 2 (some .int) 7 [rf g 0, .int a1] iv lv (fun r iv lv => SI s0 z0 iv ∧ MNg a1 r iv) := by
  refine con_mono (e_X8_night g (si_u (rm := rc_d) hG) (spf (fun z => z.2 (by unfold rc_d; omega))) hR.2.2.1.symm) (fun r iv' lv' h => ⟨si_0 h.1, ?_, (f_m_rc_d h.1 hR.1), (f_t_rc_d h.1 hR.2.1), (f_p_rc_d h.1 hR.2.2.2.1), (f_q_rc_d h.1 hR.2.2.2.2.1), (f_T_rc_d h.1 hR.2.2.2.2.2.1), (f_F_rc_d h.1 hR.2.2.2.2.2.2.1), (f_I_rc_d h.1 hR.2.2.2.2.2.2.2.1), (f_W_rc_d h.1 hR.2.2.2.2.2.2.2.2)⟩)
  rw [show iv' 552 6 = iv 552 6 from (ag h.1 (k := 552) (j := 6) (by unfold uK c9m c9t c9d c9p c9q c9T c9F c9I c9W; omega) (by unfold rc_d; omega))]; exact h.2.2
theorem v_X9_night (g : GE) {iv : Iv} {lv : Lv} {a1 : Int32} {r0 : Int32} (hG : SI s0 z0 iv) (hM : MNg a1 r0 iv) : ConI g yX9_night cX9_night 3 (some .int) 11 [rf g 551, .int a1] iv lv (fun r iv lv => SI s0 z0 iv ∧ RV iv ∧ r = r0) := by
  obtain ⟨hp, wm, wt, wp, wq, wT, wF, wI, wW⟩ := hM
  refine con_mono (e_X9_night g (si_u (rm := ry_d) hG) spU_k (spf (fun z => z.2 (by unfold ry_d; omega))) rfl) (fun r iv' lv' h => ?_)
  have e := ng_eq h.2.2 hp
  refine ⟨si_0 h.1, ⟨(f_m_ry_d h.1 wm), (f_t_ry_d h.1 wt), ?_, (f_p_ry_d h.1 wp), (f_q_ry_d h.1 wq), (f_T_ry_d h.1 wT), (f_F_ry_d h.1 wF), (f_I_ry_d h.1 wI), (f_W_ry_d h.1 wW)⟩, e.1⟩
  show iv' 552 6 = iv' 1 11
  rw [show iv' 1 11 = iv 1 11 from (ag h.1 (k := 1) (j := 11) (by unfold uK c9m c9t c9d c9p c9q c9T c9F c9I c9W; omega) (by unfold ry_d; omega))]; exact e.2
def MFd (a1 a2 a3 a4 a5 r : Int32) (iv : Iv) : Prop := (∃ (n : Nat) (t : Nat → Int32), n ≤ 400 ∧ Tp 551 17 561 n t iv ∧ (∀ j, j < n → ¬ t j = -1) ∧ (n ≤ 380 → r = nI (n + 20) ∧ Tp 541 1 542 (n + 20) (tf_x t n a1 a2 a3 a4 a5) iv) ∧ (¬ n ≤ 380 → r = -1 ∧ Tp 541 1 542 n t iv)) ∧ Rm iv ∧ Rt iv ∧ Rd iv ∧ Rp iv ∧ Rq iv ∧ RF iv ∧ RI iv ∧ RW iv
theorem v_X8_feed (g : GE) {iv : Iv} {lv : Lv} {a1 : Int32} {a2 : Int32} {a3 : Int32} {a4 : Int32} {a5 : Int32}  (hG : SI s0 z0 iv) (hR : RV iv) : ConI g yX8_feed cX8_feed 6 (some .int) 2 [rf g 0, .int a1, .int a2, .int a3, .int a4, .int a5] iv lv (fun r iv lv => SI s0 z0 iv ∧ MFd a1 a2 a3 a4 a5 r iv) := by
  obtain ⟨n, t, hn, h1, h2, h3⟩ := hR.2.2.2.2.2.1
  exact con_mono (e_X8_feed g (si_u (rm := rc_T) hG) (spf (fun z => z.2 (by unfold rc_T; omega))) (fun j => (spf (fun z => z.2 (by unfold rc_T; omega)))) h1 hn) (fun r iv' lv' h => ⟨si_0 h.1, ⟨n, t, hn, tp_c h2 (ag h.1 (k := 551) (j := 17) (by unfold uK c9m c9t c9d c9p c9q c9T c9F c9I c9W; omega) (by unfold rc_T; omega)) (fun j => ag h.1 (u9_T (Or.inr (Or.inr (Or.inr rfl)))) (by unfold rc_T; omega)), h3, h.2.1, h.2.2⟩, (f_m_rc_T h.1 hR.1), (f_t_rc_T h.1 hR.2.1), (f_d_rc_T h.1 hR.2.2.1), (f_p_rc_T h.1 hR.2.2.2.1), (f_q_rc_T h.1 hR.2.2.2.2.1), (f_F_rc_T h.1 hR.2.2.2.2.2.2.1), (f_I_rc_T h.1 hR.2.2.2.2.2.2.2.1), (f_W_rc_T h.1 hR.2.2.2.2.2.2.2.2)⟩)
theorem v_X9_feed (g : GE) {iv : Iv} {lv : Lv} {a1 : Int32} {a2 : Int32} {a3 : Int32} {a4 : Int32} {a5 : Int32} {r0 : Int32} (hG : SI s0 z0 iv) (hM : MFd a1 a2 a3 a4 a5 r0 iv) : ConI g yX9_feed cX9_feed 6 (some .int) 2 [rf g 551, .int a1, .int a2, .int a3, .int a4, .int a5] iv lv (fun r iv lv => SI s0 z0 iv ∧ RV iv ∧ r = r0) := by
  obtain ⟨⟨n, t, hn, h2, h3, hy, hno⟩, wm, wt, wd, wp, wq, wF, wI, wW⟩ := hM
  refine con_mono (e_X9_feed g (si_u (rm := ry_T) hG) (spf (fun z => z.2 (by unfold ry_T; omega))) (fun j => (spf (fun z => z.2 (by unfold ry_T; omega)))) h2 hn) (fun r iv' lv' h => ?_)
  have hc : ∀ {q : Nat} {u : Nat → Int32}, Tp 541 1 542 q u iv → Tp 541 1 542 q u iv' := fun w => tp_c w (ag h.1 (k := 541) (j := 1) (by unfold uK c9m c9t c9d c9p c9q c9T c9F c9I c9W; omega) (by unfold ry_T; omega)) (fun j => ag h.1 (u9_T (Or.inr (Or.inl rfl))) (by unfold ry_T; omega))
  by_cases q : n ≤ 380
  · obtain ⟨e1, e2⟩ := hy q
    obtain ⟨e3, e4⟩ := h.2.1 q
    exact ⟨si_0 h.1, ⟨(f_m_ry_T h.1 wm), (f_t_ry_T h.1 wt), (f_d_ry_T h.1 wd), (f_p_ry_T h.1 wp), (f_q_ry_T h.1 wq), ⟨n + 20, _, by omega, hc e2, e4, tf_P h3⟩, (f_F_ry_T h.1 wF), (f_I_ry_T h.1 wI), (f_W_ry_T h.1 wW)⟩, e3.trans e1.symm⟩
  · obtain ⟨e1, e2⟩ := hno q
    obtain ⟨e3, e4⟩ := h.2.2 q
    exact ⟨si_0 h.1, ⟨(f_m_ry_T h.1 wm), (f_t_ry_T h.1 wt), (f_d_ry_T h.1 wd), (f_p_ry_T h.1 wp), (f_q_ry_T h.1 wq), ⟨n, t, hn, hc e2, e4, h3⟩, (f_F_ry_T h.1 wF), (f_I_ry_T h.1 wI), (f_W_ry_T h.1 wW)⟩, e3.trans e1.symm⟩
def MEn (a1 r : Int32) (iv : Iv) : Prop := (∃ (n : Nat) (t : Nat → Int32), n ≤ 400 ∧ Tp 551 17 561 n t iv ∧ (∀ j, j < n → ¬ t j = -1) ∧ (∀ j, j < n → iv 542 j = t j) ∧ (Rg (nI 0) (nI n) a1 → r = nI 1 ∧ iv 541 1 = a1) ∧ (¬ Rg (nI 0) (nI n) a1 → r = nI 0 ∧ iv 541 1 = nI n)) ∧ Rm iv ∧ Rt iv ∧ Rd iv ∧ Rp iv ∧ Rq iv ∧ RF iv ∧ RI iv ∧ RW iv
theorem v_X8_end (g : GE) {iv : Iv} {lv : Lv} {a1 : Int32}  (hG : SI s0 z0 iv) (hR : RV iv) : ConI g yX8_end cX8_end 2 (some .boolean) 1 [rf g 0, .int a1] iv lv (fun r iv lv => SI s0 z0 iv ∧ MEn a1 r iv) := by
  obtain ⟨n, t, hn, h1, h2, h3⟩ := hR.2.2.2.2.2.1
  exact con_mono (e_X8_end g (si_u (rm := rc_e) hG) (spf (fun z => z.2 (by unfold rc_e; omega))) h1.1) (fun r iv' lv' h => ⟨si_0 h.1, ⟨n, t, hn, tp_c h2 (ag h.1 (k := 551) (j := 17) (by unfold uK c9m c9t c9d c9p c9q c9T c9F c9I c9W; omega) (by unfold rc_e; omega)) (fun j => ag h.1 (u9_T (Or.inr (Or.inr (Or.inr rfl)))) (by unfold rc_e; omega)), h3, fun j hj => (ag h.1 (u9_T (Or.inr (Or.inl rfl))) (by unfold rc_e; omega)).trans (h1.2 j hj), h.2.1, h.2.2⟩, (f_m_rc_e h.1 hR.1), (f_t_rc_e h.1 hR.2.1), (f_d_rc_e h.1 hR.2.2.1), (f_p_rc_e h.1 hR.2.2.2.1), (f_q_rc_e h.1 hR.2.2.2.2.1), (f_F_rc_e h.1 hR.2.2.2.2.2.2.1), (f_I_rc_e h.1 hR.2.2.2.2.2.2.2.1), (f_W_rc_e h.1 hR.2.2.2.2.2.2.2.2)⟩)
theorem v_X9_end (g : GE) {iv : Iv} {lv : Lv} {a1 : Int32} {r0 : Int32} (hG : SI s0 z0 iv) (hM : MEn a1 r0 iv) : ConI g yX9_end cX9_end 2 (some .boolean) 2 [rf g 551, .int a1] iv lv (fun r iv lv => SI s0 z0 iv ∧ RV iv ∧ r = r0) := by
  obtain ⟨⟨n, t, hn, h2, h3, h4, hy, hno⟩, wm, wt, wd, wp, wq, wF, wI, wW⟩ := hM
  refine con_mono (e_X9_end g (si_u (rm := ry_e) hG) (spf (fun z => z.2 (by unfold ry_e; omega))) h2.1) (fun r iv' lv' h => ?_)
  have hc : ∀ j, j < n → iv' 542 j = t j := fun j hj => (ag h.1 (u9_T (Or.inr (Or.inl rfl))) (by unfold ry_e; omega)).trans (h4 j hj)
  have hd : ∀ j, j < n → iv' 561 j = t j := fun j hj => (ag h.1 (u9_T (Or.inr (Or.inr (Or.inr rfl)))) (by unfold ry_e; omega)).trans (h2.2 j hj)
  have e9 : iv' 541 1 = iv 541 1 := (ag h.1 (k := 541) (j := 1) (by unfold uK c9m c9t c9d c9p c9q c9T c9F c9I c9W; omega) (by unfold ry_e; omega))
  by_cases q : Rg (nI 0) (nI n) a1
  · obtain ⟨e1, e2⟩ := hy q
    obtain ⟨e3, e4⟩ := h.2.1 q
    obtain ⟨k, hk0, hk, rfl⟩ := Rg_nat (by omega) (by decide) q
    exact ⟨si_0 h.1, ⟨(f_m_ry_e h.1 wm), (f_t_ry_e h.1 wt), (f_d_ry_e h.1 wd), (f_p_ry_e h.1 wp), (f_q_ry_e h.1 wq), ⟨k, t, by omega, ⟨e9.trans e2, fun j hj => hc j (by omega)⟩, ⟨e4, fun j hj => hd j (by omega)⟩, fun j hj => h3 j (by omega)⟩, (f_F_ry_e h.1 wF), (f_I_ry_e h.1 wI), (f_W_ry_e h.1 wW)⟩, e3.trans e1.symm⟩
  · obtain ⟨e1, e2⟩ := hno q
    obtain ⟨e3, e4⟩ := h.2.2 q
    exact ⟨si_0 h.1, ⟨(f_m_ry_e h.1 wm), (f_t_ry_e h.1 wt), (f_d_ry_e h.1 wd), (f_p_ry_e h.1 wp), (f_q_ry_e h.1 wq), ⟨n, t, hn, ⟨e9.trans e2, hc⟩, ⟨e4, hd⟩, h3⟩, (f_F_ry_e h.1 wF), (f_I_ry_e h.1 wI), (f_W_ry_e h.1 wW)⟩, e3.trans e1.symm⟩
theorem k_X9_tomorrow (g : GE) {iv : Iv} {lv : Lv} {a1 : Int32} {a2 : Int32} {a3 : Int32} (hG : SI s0 z0 iv) : ConI g yX9_tomorrow cX9_tomorrow 6 (some .int) 11 [rf g 551, .int a1, .int a2, .int a3] iv lv (fun r iv' lv' => SI (spU rmN) iv iv') := by
  refine con_mono (e_X9_tomorrow g (si_u (rm := ry_w) hG) (sk_Sd spU_k) (fun j => (spf (fun z => z.2 (by unfold ry_w; omega)))) (fun j => (spf (fun z => by have := z.1; unfold uK c9m c9t c9d c9p c9q c9T c9F c9I c9W at this; omega))) rfl) (fun r iv' lv' h => ⟨fun k j z => sk_spc (uK_sK (spu z).1), fun k j z => ?_, h.1.2.2⟩)
  have hu := (spu z).1
  by_cases e : k = 552
  · subst e
    exact h.2 j (by unfold uK c9m c9t c9d c9p c9q c9T c9F c9I c9W at hu; omega)
  · exact ag h.1 hu e
