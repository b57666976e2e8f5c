def o_ck (M : mM) : Nat → Int64
  | 0 => 7
  | n + 1 => 31 * (31 * (31 * o_ck M n + (M 11 n).toInt64) + (M 12 n).toInt64) + (M 13 n).toInt64 + (if M 16 n = 0 then (0 : Int32) else 100).toInt64
