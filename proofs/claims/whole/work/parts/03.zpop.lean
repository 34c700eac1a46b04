def pcn (n : Nat) : Nat :=
  let a := n - ((n >>> 1) &&& 1431655765)
  let b := (a &&& 858993459) + ((a >>> 2) &&& 858993459)
  let c := (b + b >>> 4) &&& 252645135
  let e := c + c >>> 8
  (e + e >>> 16) &&& 63
def ctn (n : Nat) : Nat := n % 2 + n / 2 % 2 + n / 4 % 2 + n / 8 % 2 + n / 16 % 2 + n / 32 % 2 + n / 64 % 2 + n / 128 % 2 + n / 256 % 2 + n / 512 % 2 + n / 1024 % 2 + n / 2048 % 2 + n / 4096 % 2 + n / 8192 % 2 + n / 16384 % 2 + n / 32768 % 2
def pck : Nat → Bool
  | 0 => true
  | n + 1 => pck n && (let rec go : Nat → Bool
      | 0 => true
      | k + 1 => go k && Nat.beq (pcn (256 * n + k)) (ctn (256 * n + k))
    go 256)
set_option maxRecDepth 100000 in
theorem pck_ok : pck 256 = true := by decide +kernel
