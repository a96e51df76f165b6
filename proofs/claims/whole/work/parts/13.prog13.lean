section PR
variable {B : Nat} {sp : Nat → Value} {D : va_G} {cA : Nat → ClassId} {Ls : Nat} {xs : Nat → Int32} {adK adV : Nat → Nat}
def pl_JStL_indexOf : List (Nat × mA) := [(0, a_iload 1 1), (1, a_call 229 1 4), (4, a_if (fun x => decide (x ≠ 0)) 9 7), (7, a_push (-1) 8), (8, a_iret), (9, a_iload 2 10), (10, a_push 0 11), (11, a_call 206 2 14), (14, a_istore 2 15), (15, a_iload 3 16), (16, a_aload 0 17), (17, a_blen 18), (18, a_call 116 2 21), (21, a_istore 3 22), (22, a_iload 2 23), (23, a_iload 3 24), (24, a_cmp (fun x y => decide (x < y)) 29 27), (27, a_push (-1) 28), (28, a_iret), (29, a_aload 0 30), (30, a_iload 1 31), (31, a_iload 2 32), (32, a_iload 3 33), (33, a_call 230 4 36), (36, a_iret)]
set_option maxRecDepth 20000 in
theorem ol_JStL_indexOf : okall B sp D cA (SPf B sp Ls xs adK adV) MT ⟨"java/lang/StringLatin1", "indexOf", "([BIII)I"⟩ prog_17_method_22_code 4 (Option.some Jvm.ClassFile.FieldType.int) (pl_JStL_indexOf) := by
  unfold pl_JStL_indexOf
  exact
    okc (ok_iload_n (k := 1) (by decide +kernel) rfl rfl) (
    okc (ok_callS (SPf_ok _ _ _ _ _ _) (mi := 229) (n := 1) (idx := 88) rfl m_JStL_canEncode (by decide) w_793 w_794 (by decide +kernel) rfl) (
    okc (ok_if_ne (off := 5) (by decide +kernel) rfl rfl) (
    okc (ok_iconst (n := -1) (by decide +kernel) rfl rfl) (
    okc (ok_iret rfl (by decide +kernel)) (
    okc (ok_iload_n (k := 2) (by decide +kernel) rfl rfl) (
    okc (ok_iconst (n := 0) (by decide +kernel) rfl rfl) (
    okc (ok_callS (SPf_ok _ _ _ _ _ _) (mi := 206) (n := 2) (idx := 92) rfl m_JMath_max (by decide) w_796 w_397 (by decide +kernel) rfl) (
    okc (ok_istore_n (k := 2) (by decide +kernel) rfl rfl) (
    okc (ok_iload_n (k := 3) (by decide +kernel) rfl rfl) (
    okc (ok_aload_n (k := 0) (by decide +kernel) rfl rfl) (
    okc (ok_blen (by decide +kernel) rfl) (
    okc (ok_callS (SPf_ok _ _ _ _ _ _) (mi := 116) (n := 2) (idx := 38) rfl m_JMath_min (by decide) w_797 w_394 (by decide +kernel) rfl) (
    okc (ok_istore_n (k := 3) (by decide +kernel) rfl rfl) (
    okc (ok_iload_n (k := 2) (by decide +kernel) rfl rfl) (
    okc (ok_iload_n (k := 3) (by decide +kernel) rfl rfl) (
    okc (ok_cmp_lt (off := 5) (by decide +kernel) rfl rfl) (
    okc (ok_iconst (n := -1) (by decide +kernel) rfl rfl) (
    okc (ok_iret rfl (by decide +kernel)) (
    okc (ok_aload_n (k := 0) (by decide +kernel) rfl rfl) (
    okc (ok_iload_n (k := 1) (by decide +kernel) rfl rfl) (
    okc (ok_iload_n (k := 2) (by decide +kernel) rfl rfl) (
    okc (ok_iload_n (k := 3) (by decide +kernel) rfl rfl) (
    okc (ok_callS (SPf_ok _ _ _ _ _ _) (mi := 230) (n := 4) (idx := 95) rfl m_JStL_indexOfChar (by decide) w_798 w_799 (by decide +kernel) rfl) (
    okc (ok_iret rfl (by decide +kernel)) ( okn)))))))))))))))))))))))))
def pl_JStL_canEncode : List (Nat × mA) := [(0, a_iload 0 1), (1, a_if (fun x => decide (x < 0)) 15 4), (4, a_iload 0 5), (5, a_push 255 8), (8, a_cmp (fun x y => decide (y < x)) 15 11), (11, a_push 1 12), (12, a_goto 16), (15, a_push 0 16), (16, a_zret)]
set_option maxRecDepth 20000 in
theorem ol_JStL_canEncode : okall B sp D cA (SPf B sp Ls xs adK adV) MT ⟨"java/lang/StringLatin1", "canEncode", "(I)Z"⟩ prog_17_method_4_code 1 (Option.some Jvm.ClassFile.FieldType.boolean) (pl_JStL_canEncode) := by
  unfold pl_JStL_canEncode
  exact
    okc (ok_iload_n (k := 0) (by decide +kernel) rfl rfl) (
    okc (ok_if_lt (off := 14) (by decide +kernel) rfl rfl) (
    okc (ok_iload_n (k := 0) (by decide +kernel) rfl rfl) (
    okc (ok_sipush (n := 255) (by decide +kernel) (by decide +kernel) rfl) (
    okc (ok_cmp_gt (off := 7) (by decide +kernel) rfl rfl) (
    okc (ok_iconst (n := 1) (by decide +kernel) rfl rfl) (
    okc (ok_goto (off := 4) (by decide +kernel) rfl) (
    okc (ok_iconst (n := 0) (by decide +kernel) rfl rfl) (
    okc (ok_zret rfl (by decide +kernel)) ( okn)))))))))
def pl_JStL_indexOfChar : List (Nat × mA) := [(0, a_iload 1 1), (1, a_un (fun x => x.toInt8.toInt32) 2), (2, a_istore 4 4), (4, a_iload 2 5), (5, a_istore 5 7), (7, a_iload 5 9), (9, a_iload 3 10), (10, a_cmp (fun x y => decide (y ≤ x)) 31 13), (13, a_aload 0 14), (14, a_iload 5 16), (16, a_bald 17), (17, a_iload 4 19), (19, a_cmp (fun x y => decide (x ≠ y)) 25 22), (22, a_iload 5 24), (24, a_iret), (25, a_iinc 5 1 28), (28, a_goto 7), (31, a_push (-1) 32), (32, a_iret)]
set_option maxRecDepth 20000 in
theorem ol_JStL_indexOfChar : okall B sp D cA (SPf B sp Ls xs adK adV) MT ⟨"java/lang/StringLatin1", "indexOfChar", "([BIII)I"⟩ prog_17_method_23_code 6 (Option.some Jvm.ClassFile.FieldType.int) (pl_JStL_indexOfChar) := by
  unfold pl_JStL_indexOfChar
  exact
    okc (ok_iload_n (k := 1) (by decide +kernel) rfl rfl) (
    okc (ok_i2b (by decide +kernel) rfl) (
    okc (ok_istore (by decide +kernel) rfl) (
    okc (ok_iload_n (k := 2) (by decide +kernel) rfl rfl) (
    okc (ok_istore (by decide +kernel) rfl) (
    okc (ok_iload (by decide +kernel) rfl) (
    okc (ok_iload_n (k := 3) (by decide +kernel) rfl rfl) (
    okc (ok_cmp_ge (off := 21) (by decide +kernel) rfl rfl) (
    okc (ok_aload_n (k := 0) (by decide +kernel) rfl rfl) (
    okc (ok_iload (by decide +kernel) rfl) (
    okc (ok_bald (by decide +kernel) rfl) (
    okc (ok_iload (by decide +kernel) rfl) (
    okc (ok_cmp_ne (off := 6) (by decide +kernel) rfl rfl) (
    okc (ok_iload (by decide +kernel) rfl) (
    okc (ok_iret rfl (by decide +kernel)) (
    okc (ok_iinc (n := 1) (by decide +kernel) rfl rfl) (
    okc (ok_goto (off := -21) (by decide +kernel) rfl) (
    okc (ok_iconst (n := -1) (by decide +kernel) rfl rfl) (
    okc (ok_iret rfl (by decide +kernel)) ( okn)))))))))))))))))))
end PR
