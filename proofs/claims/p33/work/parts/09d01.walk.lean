/-- worlds by their leaves -/
def quP (x0 : Nat) (x1 : Value) (x2 : Nat) (x3 x4 x5 x6 x7 x8 : Value) (x9 : Nat) (x10 x11 x12 x13 x14 x15 x16 x17 : Value) (x18 : Int32) (x19 : Value) (x20 : Nat) (x21 x22 x23 x24 x25 x26 x27 x28 x29 : Value) (x30 : Int32) (x31 x32 : Value) (x33 x34 : Nat) (x35 : Value) (x36 : Nat) (x37 : Value) (x38 : Nat) (x39 : ClassId) (x40 : NI) : va_W := [(x0, .inr (10, [x1, .ref x2, x3, x4, x5, x6, x7, x8, .ref x9, x10, x11, x12, x13, x14, x15, x16, x17, .int x18, x19])), (x20, .inr (2, [x21, x22, x23, x24, x25, x26, x27, x28, x29, .int x30, x31, x32])), (x33, .inr (1, [.ref x34, x35, .ref x36, x37])), (x38, .inl (x39, 64, .inl x40))]
def qSB (x0 x1 : Nat) (x2 : Value) (x3 : Nat) (x4 : Value) (x5 : Nat) (x6 : ClassId) (x7 : NI) : va_W := [(x0, .inr (1, [.ref x1, x2, .ref x3, x4])), (x5, .inl (x6, 64, .inl x7))]
def qVQ (x0 : Nat) (x1 : Value) (x2 : Nat) (x3 x4 x5 x6 x7 x8 : Value) (x9 : Nat) (x10 x11 x12 x13 x14 x15 x16 x17 : Value) (x18 : Int32) (x19 : Value) (x20 : Nat) (x21 x22 x23 x24 x25 x26 x27 x28 x29 : Value) (x30 : Int32) (x31 x32 : Value) : va_W := [(x0, .inr (10, [x1, .ref x2, x3, x4, x5, x6, x7, x8, .ref x9, x10, x11, x12, x13, x14, x15, x16, x17, .int x18, x19])), (x20, .inr (2, [x21, x22, x23, x24, x25, x26, x27, x28, x29, .int x30, x31, x32]))]
def qvO (x0 x1 : Nat) (x2 : Value) (x3 : Nat) (x4 : Value) (x5 : Nat) (x6 x7 x8 x9 x10 x11 x12 x13 x14 : Value) (x15 : Int32) (x16 x17 : Value) (x18 : Nat) (x19 : ClassId) (x20 : NI) : va_W := [(x0, .inr (1, [.ref x1, x2, .ref x3, x4])), (x5, .inr (2, [x6, x7, x8, x9, x10, x11, x12, x13, x14, .int x15, x16, x17])), (x18, .inl (x19, 64, .inl x20))]
def qbdv (x0 : Nat) (x1 : Value) (x2 : Nat) (x3 x4 x5 x6 x7 x8 : Value) (x9 : Nat) (x10 x11 x12 x13 x14 x15 x16 x17 : Value) (x18 : Int32) (x19 : Value) : va_W := [(x0, .inr (10, [x1, .ref x2, x3, x4, x5, x6, x7, x8, .ref x9, x10, x11, x12, x13, x14, x15, x16, x17, .int x18, x19]))]
def qZ3 (x0 : Nat) (x1 : Value) (x2 : Nat) (x3 x4 x5 x6 x7 x8 : Value) (x9 : Nat) (x10 x11 x12 x13 x14 x15 x16 x17 : Value) (x18 : Int32) (x19 : Value) (x20 : Nat) (x21 x22 x23 x24 x25 x26 x27 x28 x29 : Value) (x30 : Int32) (x31 x32 : Value) (x33 x34 : Nat) (x35 : Value) (x36 : Nat) (x37 : Value) (x38 : Nat) (x39 : ClassId) (x40 : NI) (x41 : Nat) (x42 : ClassId) (x43 : Nat) (x44 : Nat → Int64) : va_W := [(x0, .inr (10, [x1, .ref x2, x3, x4, x5, x6, x7, x8, .ref x9, x10, x11, x12, x13, x14, x15, x16, x17, .int x18, x19])), (x20, .inr (2, [x21, x22, x23, x24, x25, x26, x27, x28, x29, .int x30, x31, x32])), (x33, .inr (1, [.ref x34, x35, .ref x36, x37])), (x38, .inl (x39, 64, .inl x40)), (x41, .inl (x42, x43, .inr (.inl x44)))]
def qRF (x0 : Nat) (x1 : Value) (x2 : Nat) (x3 x4 x5 x6 x7 x8 x9 x10 x11 x12 x13 x14 x15 x16 x17 : Value) (x18 : Int32) (x19 : Value) (x20 : Nat) (x21 x22 x23 x24 x25 x26 x27 x28 : Value) (x29 : Int32) (x30 x31 x32 : Value) : va_W := [(x0, .inr (10, [x1, .ref x2, x3, x4, x5, x6, x7, x8, x9, x10, x11, x12, x13, x14, x15, x16, x17, .int x18, x19])), (x20, .inr (2, [x21, x22, x23, x24, x25, x26, x27, x28, .int x29, x30, x31, x32]))]
def qay1 (x0 x1 x2 : Nat) (x3 x4 x5 x6 x7 x8 x9 x10 x11 x12 : Value) (x13 : Nat) (x14 : ClassId) (x15 : NI) (x16 : Nat) (x17 : ClassId) (x18 : NI) : va_W := [(x0, .inr (2, [.ref x1, .ref x2, x3, x4, x5, x6, x7, x8, x9, x10, x11, x12])), (x13, .inl (x14, 8, .inl x15)), (x16, .inl (x17, 8, .inl x18))]
def qa9L (x0 : Nat) (x1 x2 x3 x4 x5 x6 x7 x8 x9 : Value) (x10 : Int32) (x11 x12 : Value) : va_W := [(x0, .inr (2, [x1, x2, x3, x4, x5, x6, x7, x8, x9, .int x10, x11, x12]))]
def qwh (x0 : Nat) (x1 x2 x3 : Value) (x4 : Nat) (x5 : Value) (x6 : Nat) (x7 : ClassId) (x8 : NI) : va_W := [(x0, .inr (4, [x1, x2, x3, .ref x4, x5])), (x6, .inl (x7, 8, .inl x8))]
def qJC (x0 x1 : Nat) (x2 x3 x4 : Value) (x5 : Nat) (x6 : ClassId) (x7 : NI) : va_W := [(x0, .inr (1, [.ref x1, x2, x3, x4])), (x5, .inl (x6, 64, .inl x7))]
def qnM (x0 x1 x2 x3 x4 : Nat) (x5 : Int32) (x6 : Nat) (x7 : ClassId) (x8 : NI) (x9 : Nat) (x10 : ClassId) (x11 : NI) (x12 : Nat) (x13 : ClassId) (x14 : NI) (x15 : Nat) (x16 : ClassId) (x17 : NI) : va_W := [(x0, .inr (4, [.ref x1, .ref x2, .ref x3, .ref x4, .int x5])), (x6, .inl (x7, 150, .inl x8)), (x9, .inl (x10, 150, .inl x11)), (x12, .inl (x13, 150, .inl x14)), (x15, .inl (x16, 8, .inl x17))]
def qyg (x0 x1 : Nat) (x2 : Value) (x3 x4 x5 : Nat) (x6 : ClassId) (x7 : NI) (x8 : Nat) (x9 x10 x11 x12 x13 x14 x15 x16 x17 : Value) (x18 : Int32) (x19 x20 : Value) (x21 x22 x23 x24 x25 : Nat) (x26 : Int32) (x27 : Nat) (x28 : ClassId) (x29 : NI) (x30 : Nat) (x31 : ClassId) (x32 : NI) (x33 : Nat) (x34 : ClassId) (x35 : NI) (x36 : Nat) (x37 : ClassId) (x38 : NI) : va_W := [(x0, .inr (1, [.ref x1, x2, .ref x3, .ref x4])), (x5, .inl (x6, 64, .inl x7)), (x8, .inr (2, [x9, x10, x11, x12, x13, x14, x15, x16, x17, .int x18, x19, x20])), (x21, .inr (4, [.ref x22, .ref x23, .ref x24, .ref x25, .int x26])), (x27, .inl (x28, 8, .inl x29)), (x30, .inl (x31, 150, .inl x32)), (x33, .inl (x34, 150, .inl x35)), (x36, .inl (x37, 150, .inl x38))]
def qDB (x0 x1 : Nat) (x2 : Value) (x3 x4 x5 : Nat) (x6 : ClassId) (x7 : NI) : va_W := [(x0, .inr (1, [.ref x1, x2, .ref x3, .ref x4])), (x5, .inl (x6, 64, .inl x7))]
def qaDu (x0 : Nat) (x1 x2 x3 x4 x5 x6 x7 x8 x9 : Value) (x10 : Int32) (x11 x12 : Value) (x13 x14 x15 x16 x17 : Nat) (x18 : Int32) (x19 : Nat) (x20 : ClassId) (x21 : NI) (x22 : Nat) (x23 : ClassId) (x24 : NI) (x25 : Nat) (x26 : ClassId) (x27 : NI) (x28 : Nat) (x29 : ClassId) (x30 : NI) : va_W := [(x0, .inr (2, [x1, x2, x3, x4, x5, x6, x7, x8, x9, .int x10, x11, x12])), (x13, .inr (4, [.ref x14, .ref x15, .ref x16, .ref x17, .int x18])), (x19, .inl (x20, 8, .inl x21)), (x22, .inl (x23, 150, .inl x24)), (x25, .inl (x26, 150, .inl x27)), (x28, .inl (x29, 150, .inl x30))]
def qalG (x0 x1 : Nat) (x2 : Value) (x3 x4 x5 : Nat) (x6 x7 x8 x9 x10 x11 x12 x13 x14 : Value) (x15 : Int32) (x16 x17 : Value) (x18 : Nat) (x19 : ClassId) (x20 : NI) : va_W := [(x0, .inr (1, [.ref x1, x2, .ref x3, .ref x4])), (x5, .inr (2, [x6, x7, x8, x9, x10, x11, x12, x13, x14, .int x15, x16, x17])), (x18, .inl (x19, 64, .inl x20))]
def qaXL (x0 x1 x2 x3 x4 : Nat) (x5 : Int32) (x6 : Nat) (x7 : ClassId) (x8 : NI) (x9 : Nat) (x10 : ClassId) (x11 : NI) (x12 : Nat) (x13 : ClassId) (x14 : NI) (x15 : Nat) (x16 : ClassId) (x17 : NI) : va_W := [(x0, .inr (4, [.ref x1, .ref x2, .ref x3, .ref x4, .int x5])), (x6, .inl (x7, 8, .inl x8)), (x9, .inl (x10, 150, .inl x11)), (x12, .inl (x13, 150, .inl x14)), (x15, .inl (x16, 150, .inl x17))]
def qaOt (x0 x1 x2 x3 x4 : Nat) (x5 : Int32) (x6 : Nat) (x7 : ClassId) (x8 : NI) : va_W := [(x0, .inr (4, [.ref x1, .ref x2, .ref x3, .ref x4, .int x5])), (x6, .inl (x7, 8, .inl x8))]
def qa5p (x0 x1 : Nat) (x2 : Value) (x3 x4 x5 : Nat) (x6 : ClassId) (x7 : NI) (x8 : Nat) (x9 x10 x11 x12 x13 x14 x15 x16 x17 : Value) (x18 : Int32) (x19 x20 : Value) (x21 : Nat) (x22 : ClassId) (x23 : NI) (x24 : Nat) (x25 : ClassId) (x26 : NI) (x27 : Nat) (x28 : ClassId) (x29 : NI) : va_W := [(x0, .inr (1, [.ref x1, x2, .ref x3, .ref x4])), (x5, .inl (x6, 64, .inl x7)), (x8, .inr (2, [x9, x10, x11, x12, x13, x14, x15, x16, x17, .int x18, x19, x20])), (x21, .inl (x22, 150, .inl x23)), (x24, .inl (x25, 150, .inl x26)), (x27, .inl (x28, 150, .inl x29))]
def qMi (x0 x1 : Nat) (x2 : Value) (x3 x4 x5 : Nat) (x6 : ClassId) (x7 : NI) (x8 x9 x10 : Nat) (x11 x12 x13 x14 x15 x16 x17 : Value) (x18 : Int32) (x19 x20 : Value) (x21 : Nat) (x22 : ClassId) (x23 : NI) (x24 : Nat) (x25 : ClassId) (x26 : NI) (x27 x28 x29 x30 x31 : Nat) (x32 : Int32) (x33 : Nat) (x34 : ClassId) (x35 : NI) (x36 : Nat) (x37 : ClassId) (x38 : NI) (x39 : Nat) (x40 : ClassId) (x41 : NI) (x42 : Nat) (x43 : ClassId) (x44 : NI) : va_W := [(x0, .inr (1, [.ref x1, x2, .ref x3, .ref x4])), (x5, .inl (x6, 64, .inl x7)), (x8, .inr (2, [.ref x9, .ref x10, x11, x12, x13, x14, x15, x16, x17, .int x18, x19, x20])), (x21, .inl (x22, 8, .inl x23)), (x24, .inl (x25, 8, .inl x26)), (x27, .inr (4, [.ref x28, .ref x29, .ref x30, .ref x31, .int x32])), (x33, .inl (x34, 8, .inl x35)), (x36, .inl (x37, 150, .inl x38)), (x39, .inl (x40, 150, .inl x41)), (x42, .inl (x43, 150, .inl x44))]
def qaYd (x0 x1 x2 : Nat) (x3 x4 x5 x6 x7 x8 x9 : Value) (x10 : Int32) (x11 x12 : Value) (x13 : Nat) (x14 : ClassId) (x15 : NI) (x16 : Nat) (x17 : ClassId) (x18 : NI) (x19 x20 x21 x22 x23 : Nat) (x24 : Int32) (x25 : Nat) (x26 : ClassId) (x27 : NI) (x28 : Nat) (x29 : ClassId) (x30 : NI) (x31 : Nat) (x32 : ClassId) (x33 : NI) (x34 : Nat) (x35 : ClassId) (x36 : NI) : va_W := [(x0, .inr (2, [.ref x1, .ref x2, x3, x4, x5, x6, x7, x8, x9, .int x10, x11, x12])), (x13, .inl (x14, 8, .inl x15)), (x16, .inl (x17, 8, .inl x18)), (x19, .inr (4, [.ref x20, .ref x21, .ref x22, .ref x23, .int x24])), (x25, .inl (x26, 8, .inl x27)), (x28, .inl (x29, 150, .inl x30)), (x31, .inl (x32, 150, .inl x33)), (x34, .inl (x35, 150, .inl x36))]
def qa45 (x0 x1 x2 : Nat) (x3 x4 x5 x6 x7 x8 x9 : Value) (x10 : Int32) (x11 x12 : Value) (x13 : Nat) (x14 : ClassId) (x15 : NI) (x16 : Nat) (x17 : ClassId) (x18 : NI) : va_W := [(x0, .inr (2, [.ref x1, .ref x2, x3, x4, x5, x6, x7, x8, x9, .int x10, x11, x12])), (x13, .inl (x14, 8, .inl x15)), (x16, .inl (x17, 8, .inl x18))]
def qa8i (x0 x1 : Nat) (x2 : Value) (x3 x4 x5 : Nat) (x6 : ClassId) (x7 : NI) (x8 x9 x10 : Nat) (x11 x12 x13 x14 x15 x16 x17 : Value) (x18 : Int32) (x19 x20 : Value) (x21 x22 x23 x24 x25 : Nat) (x26 : Int32) (x27 : Nat) (x28 : ClassId) (x29 : NI) (x30 : Nat) (x31 : ClassId) (x32 : NI) (x33 : Nat) (x34 : ClassId) (x35 : NI) (x36 : Nat) (x37 : ClassId) (x38 : NI) : va_W := [(x0, .inr (1, [.ref x1, x2, .ref x3, .ref x4])), (x5, .inl (x6, 64, .inl x7)), (x8, .inr (2, [.ref x9, .ref x10, x11, x12, x13, x14, x15, x16, x17, .int x18, x19, x20])), (x21, .inr (4, [.ref x22, .ref x23, .ref x24, .ref x25, .int x26])), (x27, .inl (x28, 8, .inl x29)), (x30, .inl (x31, 150, .inl x32)), (x33, .inl (x34, 150, .inl x35)), (x36, .inl (x37, 150, .inl x38))]
def qFC (x0 : Nat) (x1 : Value) (x2 : Nat) (x3 x4 x5 x6 x7 x8 : Value) (x9 : Nat) (x10 x11 x12 x13 x14 x15 x16 x17 : Value) (x18 : Int32) (x19 : Value) (x20 x21 x22 : Nat) (x23 x24 x25 x26 x27 x28 : Value) (x29 x30 : Int32) (x31 x32 : Value) (x33 x34 : Nat) (x35 : Value) (x36 x37 x38 : Nat) (x39 : ClassId) (x40 : NI) (x41 : Nat) (x42 : ClassId) (x43 : NI) (x44 : Nat) (x45 : ClassId) (x46 : NI) (x47 x48 x49 x50 x51 : Nat) (x52 : Int32) (x53 : Nat) (x54 : ClassId) (x55 : NI) (x56 : Nat) (x57 : ClassId) (x58 : NI) (x59 : Nat) (x60 : ClassId) (x61 : NI) (x62 : Nat) (x63 : ClassId) (x64 : NI) : va_W := [(x0, .inr (10, [x1, .ref x2, x3, x4, x5, x6, x7, x8, .ref x9, x10, x11, x12, x13, x14, x15, x16, x17, .int x18, x19])), (x20, .inr (2, [.ref x21, .ref x22, x23, x24, x25, x26, x27, x28, .int x29, .int x30, x31, x32])), (x33, .inr (1, [.ref x34, x35, .ref x36, .ref x37])), (x38, .inl (x39, 64, .inl x40)), (x41, .inl (x42, 8, .inl x43)), (x44, .inl (x45, 8, .inl x46)), (x47, .inr (4, [.ref x48, .ref x49, .ref x50, .ref x51, .int x52])), (x53, .inl (x54, 8, .inl x55)), (x56, .inl (x57, 150, .inl x58)), (x59, .inl (x60, 150, .inl x61)), (x62, .inl (x63, 150, .inl x64))]
def qakf (x0 : Nat) (x1 : Value) (x2 : Nat) (x3 x4 x5 x6 x7 x8 : Value) (x9 : Nat) (x10 x11 x12 x13 x14 x15 x16 x17 : Value) (x18 : Int32) (x19 : Value) (x20 x21 x22 : Nat) (x23 x24 x25 x26 x27 x28 : Value) (x29 x30 : Int32) (x31 x32 : Value) : va_W := [(x0, .inr (10, [x1, .ref x2, x3, x4, x5, x6, x7, x8, .ref x9, x10, x11, x12, x13, x14, x15, x16, x17, .int x18, x19])), (x20, .inr (2, [.ref x21, .ref x22, x23, x24, x25, x26, x27, x28, .int x29, .int x30, x31, x32]))]
def qaSD (x0 x1 : Nat) (x2 : Value) (x3 x4 x5 : Nat) (x6 : ClassId) (x7 : NI) (x8 : Nat) (x9 : ClassId) (x10 : NI) (x11 : Nat) (x12 : ClassId) (x13 : NI) (x14 x15 x16 x17 x18 : Nat) (x19 : Int32) (x20 : Nat) (x21 : ClassId) (x22 : NI) (x23 : Nat) (x24 : ClassId) (x25 : NI) (x26 : Nat) (x27 : ClassId) (x28 : NI) (x29 : Nat) (x30 : ClassId) (x31 : NI) : va_W := [(x0, .inr (1, [.ref x1, x2, .ref x3, .ref x4])), (x5, .inl (x6, 64, .inl x7)), (x8, .inl (x9, 8, .inl x10)), (x11, .inl (x12, 8, .inl x13)), (x14, .inr (4, [.ref x15, .ref x16, .ref x17, .ref x18, .int x19])), (x20, .inl (x21, 8, .inl x22)), (x23, .inl (x24, 150, .inl x25)), (x26, .inl (x27, 150, .inl x28)), (x29, .inl (x30, 150, .inl x31))]
def qbaa (x0 x1 : Nat) (x2 : Value) (x3 x4 x5 : Nat) (x6 : ClassId) (x7 : NI) (x8 x9 x10 : Nat) (x11 x12 x13 x14 x15 x16 : Value) (x17 x18 : Int32) (x19 x20 : Value) (x21 : Nat) (x22 : ClassId) (x23 : NI) (x24 : Nat) (x25 : ClassId) (x26 : NI) (x27 x28 x29 x30 x31 : Nat) (x32 : Int32) (x33 : Nat) (x34 : ClassId) (x35 : NI) (x36 : Nat) (x37 : ClassId) (x38 : NI) (x39 : Nat) (x40 : ClassId) (x41 : NI) (x42 : Nat) (x43 : ClassId) (x44 : NI) : va_W := [(x0, .inr (1, [.ref x1, x2, .ref x3, .ref x4])), (x5, .inl (x6, 64, .inl x7)), (x8, .inr (2, [.ref x9, .ref x10, x11, x12, x13, x14, x15, x16, .int x17, .int x18, x19, x20])), (x21, .inl (x22, 8, .inl x23)), (x24, .inl (x25, 8, .inl x26)), (x27, .inr (4, [.ref x28, .ref x29, .ref x30, .ref x31, .int x32])), (x33, .inl (x34, 8, .inl x35)), (x36, .inl (x37, 150, .inl x38)), (x39, .inl (x40, 150, .inl x41)), (x42, .inl (x43, 150, .inl x44))]
def qIE (x0 : Nat) (x1 : Value) (x2 : Nat) (x3 : Value) (x4 : Nat) (x5 x6 x7 x8 : Value) (x9 : Nat) (x10 x11 x12 x13 x14 x15 x16 x17 : Value) (x18 : Int32) (x19 : Value) (x20 x21 x22 : Nat) (x23 x24 x25 x26 x27 x28 : Value) (x29 x30 : Int32) (x31 x32 : Value) (x33 x34 : Nat) (x35 : Value) (x36 x37 x38 : Nat) (x39 : ClassId) (x40 : NI) (x41 : Nat) (x42 : ClassId) (x43 : NI) (x44 : Nat) (x45 : ClassId) (x46 : NI) (x47 x48 x49 x50 x51 : Nat) (x52 : Int32) (x53 : Nat) (x54 : ClassId) (x55 : NI) (x56 : Nat) (x57 : ClassId) (x58 : NI) (x59 : Nat) (x60 : ClassId) (x61 : NI) (x62 : Nat) (x63 : ClassId) (x64 : NI) (x65 : Nat) (x66 : ClassId) (x67 : Nat) (x68 : Nat → Int64) : va_W := [(x0, .inr (10, [x1, .ref x2, x3, .ref x4, x5, x6, x7, x8, .ref x9, x10, x11, x12, x13, x14, x15, x16, x17, .int x18, x19])), (x20, .inr (2, [.ref x21, .ref x22, x23, x24, x25, x26, x27, x28, .int x29, .int x30, x31, x32])), (x33, .inr (1, [.ref x34, x35, .ref x36, .ref x37])), (x38, .inl (x39, 64, .inl x40)), (x41, .inl (x42, 8, .inl x43)), (x44, .inl (x45, 8, .inl x46)), (x47, .inr (4, [.ref x48, .ref x49, .ref x50, .ref x51, .int x52])), (x53, .inl (x54, 8, .inl x55)), (x56, .inl (x57, 150, .inl x58)), (x59, .inl (x60, 150, .inl x61)), (x62, .inl (x63, 150, .inl x64)), (x65, .inl (x66, x67, .inr (.inl x68)))]
def qaXx (x0 : Nat) (x1 : Value) (x2 : Nat) (x3 : Value) (x4 : Nat) (x5 x6 x7 x8 : Value) (x9 : Nat) (x10 x11 x12 x13 x14 x15 x16 x17 : Value) (x18 : Int32) (x19 : Value) (x20 x21 x22 : Nat) (x23 x24 x25 x26 x27 x28 : Value) (x29 x30 : Int32) (x31 x32 : Value) (x33 x34 : Nat) (x35 : Value) (x36 x37 x38 : Nat) (x39 : ClassId) (x40 : NI) (x41 : Nat) (x42 : ClassId) (x43 : NI) (x44 : Nat) (x45 : ClassId) (x46 : NI) (x47 x48 x49 x50 x51 : Nat) (x52 : Int32) (x53 : Nat) (x54 : ClassId) (x55 : NI) (x56 : Nat) (x57 : ClassId) (x58 : NI) (x59 : Nat) (x60 : ClassId) (x61 : NI) (x62 : Nat) (x63 : ClassId) (x64 : NI) : va_W := [(x0, .inr (10, [x1, .ref x2, x3, .ref x4, x5, x6, x7, x8, .ref x9, x10, x11, x12, x13, x14, x15, x16, x17, .int x18, x19])), (x20, .inr (2, [.ref x21, .ref x22, x23, x24, x25, x26, x27, x28, .int x29, .int x30, x31, x32])), (x33, .inr (1, [.ref x34, x35, .ref x36, .ref x37])), (x38, .inl (x39, 64, .inl x40)), (x41, .inl (x42, 8, .inl x43)), (x44, .inl (x45, 8, .inl x46)), (x47, .inr (4, [.ref x48, .ref x49, .ref x50, .ref x51, .int x52])), (x53, .inl (x54, 8, .inl x55)), (x56, .inl (x57, 150, .inl x58)), (x59, .inl (x60, 150, .inl x61)), (x62, .inl (x63, 150, .inl x64))]
def qTx (x0 : Nat) (x1 : Value) (x2 x3 : Nat) (x4 : Value) (x5 : Nat) (x6 x7 x8 x9 x10 x11 x12 x13 x14 : Value) (x15 : Int32) (x16 x17 : Value) (x18 : Nat) (x19 : ClassId) (x20 : NI) : va_W := [(x0, .inr (1, [x1, .ref x2, .ref x3, x4])), (x5, .inr (2, [x6, x7, x8, x9, x10, x11, x12, x13, x14, .int x15, x16, x17])), (x18, .inl (x19, 6, .inl x20))]
def qrD (x0 x1 x2 x3 : Nat) (x4 : Value) (x5 : Nat) (x6 x7 x8 x9 x10 x11 x12 x13 x14 : Value) (x15 : Int32) (x16 x17 : Value) (x18 : Nat) (x19 : ClassId) (x20 : NI) (x21 : Nat) (x22 : ClassId) (x23 : NI) : va_W := [(x0, .inr (1, [.ref x1, .ref x2, .ref x3, x4])), (x5, .inr (2, [x6, x7, x8, x9, x10, x11, x12, x13, x14, .int x15, x16, x17])), (x18, .inl (x19, 64, .inl x20)), (x21, .inl (x22, 6, .inl x23))]
def qbaC (x0 x1 x2 x3 : Nat) (x4 : Value) (x5 : Nat) (x6 x7 x8 x9 x10 x11 x12 x13 x14 : Value) (x15 : Int32) (x16 x17 : Value) (x18 : Nat) (x19 : ClassId) (x20 : NI) : va_W := [(x0, .inr (1, [.ref x1, .ref x2, .ref x3, x4])), (x5, .inr (2, [x6, x7, x8, x9, x10, x11, x12, x13, x14, .int x15, x16, x17])), (x18, .inl (x19, 6, .inl x20))]
def qbam (x0 x1 x2 x3 : Nat) (x4 : Value) (x5 : Nat) (x6 x7 x8 x9 x10 x11 x12 x13 x14 : Value) (x15 : Int32) (x16 x17 : Value) (x18 : Nat) (x19 : ClassId) (x20 : NI) : va_W := [(x0, .inr (1, [.ref x1, .ref x2, .ref x3, x4])), (x5, .inr (2, [x6, x7, x8, x9, x10, x11, x12, x13, x14, .int x15, x16, x17])), (x18, .inl (x19, 64, .inl x20))]
def qwl (x0 : Nat) (x1 : Value) (x2 : Nat) (x3 x4 x5 x6 x7 x8 : Value) (x9 : Nat) (x10 x11 x12 x13 x14 x15 x16 x17 : Value) (x18 x19 : Int32) (x20 : Nat) (x21 x22 x23 x24 x25 x26 x27 x28 x29 : Value) (x30 : Int32) (x31 x32 : Value) (x33 x34 x35 x36 : Nat) (x37 : Value) (x38 : Nat) (x39 : ClassId) (x40 : NI) (x41 : Nat) (x42 : ClassId) (x43 : NI) : va_W := [(x0, .inr (10, [x1, .ref x2, x3, x4, x5, x6, x7, x8, .ref x9, x10, x11, x12, x13, x14, x15, x16, x17, .int x18, .int x19])), (x20, .inr (2, [x21, x22, x23, x24, x25, x26, x27, x28, x29, .int x30, x31, x32])), (x33, .inr (1, [.ref x34, .ref x35, .ref x36, x37])), (x38, .inl (x39, 64, .inl x40)), (x41, .inl (x42, 6, .inl x43))]
def qaY0 (x0 : Nat) (x1 : Value) (x2 : Nat) (x3 x4 x5 x6 x7 x8 : Value) (x9 : Nat) (x10 x11 x12 x13 x14 x15 x16 x17 : Value) (x18 x19 : Int32) (x20 : Nat) (x21 x22 x23 x24 x25 x26 x27 x28 x29 : Value) (x30 : Int32) (x31 x32 : Value) : va_W := [(x0, .inr (10, [x1, .ref x2, x3, x4, x5, x6, x7, x8, .ref x9, x10, x11, x12, x13, x14, x15, x16, x17, .int x18, .int x19])), (x20, .inr (2, [x21, x22, x23, x24, x25, x26, x27, x28, x29, .int x30, x31, x32]))]
def qa8Z (x0 x1 x2 x3 : Nat) (x4 : Value) (x5 : Nat) (x6 : ClassId) (x7 : NI) (x8 : Nat) (x9 : ClassId) (x10 : NI) : va_W := [(x0, .inr (1, [.ref x1, .ref x2, .ref x3, x4])), (x5, .inl (x6, 64, .inl x7)), (x8, .inl (x9, 6, .inl x10))]
def qacy (x0 : Nat) (x1 : Value) (x2 : Nat) (x3 x4 x5 x6 x7 x8 : Value) (x9 : Nat) (x10 x11 x12 x13 x14 x15 x16 x17 : Value) (x18 x19 : Int32) : va_W := [(x0, .inr (10, [x1, .ref x2, x3, x4, x5, x6, x7, x8, .ref x9, x10, x11, x12, x13, x14, x15, x16, x17, .int x18, .int x19]))]
def qaQY (x0 : Nat) (x1 x2 x3 x4 x5 x6 x7 x8 x9 : Value) (x10 : Int32) (x11 x12 : Value) (x13 x14 x15 x16 : Nat) (x17 : Value) (x18 : Nat) (x19 : ClassId) (x20 : NI) (x21 : Nat) (x22 : ClassId) (x23 : NI) : va_W := [(x0, .inr (2, [x1, x2, x3, x4, x5, x6, x7, x8, x9, .int x10, x11, x12])), (x13, .inr (1, [.ref x14, .ref x15, .ref x16, x17])), (x18, .inl (x19, 64, .inl x20)), (x21, .inl (x22, 6, .inl x23))]
def qMX (x0 : Nat) (x1 : Value) (x2 : Nat) (x3 x4 x5 x6 x7 x8 : Value) (x9 : Nat) (x10 x11 x12 x13 x14 x15 x16 x17 : Value) (x18 x19 : Int32) (x20 : Nat) (x21 x22 x23 x24 x25 x26 x27 x28 x29 : Value) (x30 : Int32) (x31 x32 : Value) (x33 x34 x35 x36 : Nat) (x37 : Value) (x38 : Nat) (x39 : ClassId) (x40 : NI) (x41 : Nat) (x42 : ClassId) (x43 : NI) (x44 : Nat) (x45 : ClassId) (x46 : Nat) (x47 : Nat → Int64) : va_W := [(x0, .inr (10, [x1, .ref x2, x3, x4, x5, x6, x7, x8, .ref x9, x10, x11, x12, x13, x14, x15, x16, x17, .int x18, .int x19])), (x20, .inr (2, [x21, x22, x23, x24, x25, x26, x27, x28, x29, .int x30, x31, x32])), (x33, .inr (1, [.ref x34, .ref x35, .ref x36, x37])), (x38, .inl (x39, 64, .inl x40)), (x41, .inl (x42, 6, .inl x43)), (x44, .inl (x45, x46, .inr (.inl x47)))]
def qAS (x0 : Nat) (x1 : Value) (x2 : Nat) (x3 x4 x5 x6 x7 x8 : Value) (x9 : Nat) (x10 x11 x12 x13 x14 x15 x16 x17 : Value) (x18 : Int32) (x19 : Value) (x20 : Nat) (x21 x22 x23 x24 x25 x26 x27 x28 x29 : Value) (x30 : Int32) (x31 x32 : Value) (x33 x34 : Nat) (x35 x36 x37 : Value) (x38 : Nat) (x39 : ClassId) (x40 : NI) : va_W := [(x0, .inr (10, [x1, .ref x2, x3, x4, x5, x6, x7, x8, .ref x9, x10, x11, x12, x13, x14, x15, x16, x17, .int x18, x19])), (x20, .inr (2, [x21, x22, x23, x24, x25, x26, x27, x28, x29, .int x30, x31, x32])), (x33, .inr (1, [.ref x34, x35, x36, x37])), (x38, .inl (x39, 64, .inl x40))]
def qLU (x0 : Nat) (x1 : Value) (x2 : Nat) (x3 x4 x5 x6 x7 x8 : Value) (x9 : Nat) (x10 x11 x12 x13 x14 x15 x16 x17 : Value) (x18 : Int32) (x19 : Value) (x20 : Nat) (x21 x22 x23 x24 x25 x26 x27 x28 x29 : Value) (x30 : Int32) (x31 x32 : Value) (x33 x34 : Nat) (x35 x36 x37 : Value) (x38 : Nat) (x39 : ClassId) (x40 : NI) (x41 : Nat) (x42 : ClassId) (x43 : Nat) (x44 : Nat → Int64) : va_W := [(x0, .inr (10, [x1, .ref x2, x3, x4, x5, x6, x7, x8, .ref x9, x10, x11, x12, x13, x14, x15, x16, x17, .int x18, x19])), (x20, .inr (2, [x21, x22, x23, x24, x25, x26, x27, x28, x29, .int x30, x31, x32])), (x33, .inr (1, [.ref x34, x35, x36, x37])), (x38, .inl (x39, 64, .inl x40)), (x41, .inl (x42, x43, .inr (.inl x44)))]
def qaaY (x0 x1 : Nat) (x2 : Int32) (x3 x4 x5 x6 x7 : Value) (x8 : Nat) (x9 : ClassId) (x10 : NI) : va_W := [(x0, .inr (8, [.ref x1, .int x2, x3, x4, x5, x6, x7])), (x8, .inl (x9, 600, .inl x10))]
def qyT (x0 x1 x2 : Nat) (x3 x4 x5 x6 x7 x8 : Value) (x9 : Int32) (x10 x11 x12 : Value) (x13 x14 : Nat) (x15 x16 x17 : Int32) (x18 : Value) (x19 x20 : Int32) (x21 : Nat) (x22 : ClassId) (x23 : NI) (x24 : Nat) (x25 : ClassId) (x26 : NI) (x27 : Nat) (x28 : ClassId) (x29 : NI) : va_W := [(x0, .inr (2, [.ref x1, .ref x2, x3, x4, x5, x6, x7, x8, .int x9, x10, x11, x12])), (x13, .inr (8, [.ref x14, .int x15, .int x16, .int x17, x18, .int x19, .int x20])), (x21, .inl (x22, 600, .inl x23)), (x24, .inl (x25, 8, .inl x26)), (x27, .inl (x28, 8, .inl x29))]
def qM1 (x0 x1 : Nat) (x2 x3 x4 : Int32) (x5 : Value) (x6 x7 : Int32) : va_W := [(x0, .inr (8, [.ref x1, .int x2, .int x3, .int x4, x5, .int x6, .int x7]))]
def qtV (x0 x1 : Nat) (x2 x3 x4 : Int32) (x5 : Value) (x6 x7 : Int32) (x8 : Nat) (x9 : ClassId) (x10 : NI) : va_W := [(x0, .inr (8, [.ref x1, .int x2, .int x3, .int x4, x5, .int x6, .int x7])), (x8, .inl (x9, 600, .inl x10))]
def qaZ2 (x0 x1 x2 : Nat) (x3 x4 x5 x6 x7 x8 : Value) (x9 : Int32) (x10 x11 x12 : Value) (x13 : Nat) (x14 : ClassId) (x15 : NI) (x16 : Nat) (x17 : ClassId) (x18 : NI) : va_W := [(x0, .inr (2, [.ref x1, .ref x2, x3, x4, x5, x6, x7, x8, .int x9, x10, x11, x12])), (x13, .inl (x14, 8, .inl x15)), (x16, .inl (x17, 8, .inl x18))]
def qyk (x0 : Nat) (x1 x2 x3 x4 : Value) (x5 x6 : Nat) (x7 x8 : Value) (x9 x10 : Int32) (x11 x12 : Value) (x13 x14 : Nat) (x15 x16 x17 : Int32) (x18 : Value) (x19 x20 : Int32) (x21 : Nat) (x22 : ClassId) (x23 : NI) (x24 : Nat) (x25 : ClassId) (x26 : NI) (x27 : Nat) (x28 : ClassId) (x29 : NI) : va_W := [(x0, .inr (2, [x1, x2, x3, x4, .ref x5, .ref x6, x7, x8, .int x9, .int x10, x11, x12])), (x13, .inr (8, [.ref x14, .int x15, .int x16, .int x17, x18, .int x19, .int x20])), (x21, .inl (x22, 600, .inl x23)), (x24, .inl (x25, 6, .inl x26)), (x27, .inl (x28, 6, .inl x29))]
def qaYZ (x0 : Nat) (x1 x2 x3 x4 : Value) (x5 x6 : Nat) (x7 x8 : Value) (x9 x10 : Int32) (x11 x12 : Value) (x13 : Nat) (x14 : ClassId) (x15 : NI) (x16 : Nat) (x17 : ClassId) (x18 : NI) : va_W := [(x0, .inr (2, [x1, x2, x3, x4, .ref x5, .ref x6, x7, x8, .int x9, .int x10, x11, x12])), (x13, .inl (x14, 6, .inl x15)), (x16, .inl (x17, 6, .inl x18))]
def qy1 (x0 : Nat) (x1 x2 : Value) (x3 x4 : Nat) (x5 x6 x7 x8 x9 x10 : Value) (x11 : Int32) (x12 : Value) (x13 x14 : Nat) (x15 x16 x17 : Int32) (x18 : Value) (x19 x20 : Int32) (x21 : Nat) (x22 : ClassId) (x23 : NI) (x24 : Nat) (x25 : ClassId) (x26 : NI) (x27 : Nat) (x28 : ClassId) (x29 : NI) : va_W := [(x0, .inr (2, [x1, x2, .ref x3, .ref x4, x5, x6, x7, x8, x9, x10, .int x11, x12])), (x13, .inr (8, [.ref x14, .int x15, .int x16, .int x17, x18, .int x19, .int x20])), (x21, .inl (x22, 600, .inl x23)), (x24, .inl (x25, 4, .inl x26)), (x27, .inl (x28, 4, .inl x29))]
def qaZP (x0 : Nat) (x1 x2 : Value) (x3 x4 : Nat) (x5 x6 x7 x8 x9 x10 : Value) (x11 : Int32) (x12 : Value) (x13 : Nat) (x14 : ClassId) (x15 : NI) (x16 : Nat) (x17 : ClassId) (x18 : NI) : va_W := [(x0, .inr (2, [x1, x2, .ref x3, .ref x4, x5, x6, x7, x8, x9, x10, .int x11, x12])), (x13, .inl (x14, 4, .inl x15)), (x16, .inl (x17, 4, .inl x18))]
def qzV (x0 : Nat) (x1 x2 x3 x4 x5 x6 : Value) (x7 : Nat) (x8 x9 : Value) (x10 : Int32) (x11 x12 : Value) (x13 x14 : Nat) (x15 x16 x17 : Int32) (x18 : Value) (x19 x20 : Int32) (x21 : Nat) (x22 : ClassId) (x23 : NI) (x24 : Nat) (x25 : ClassId) (x26 : NI) : va_W := [(x0, .inr (2, [x1, x2, x3, x4, x5, x6, .ref x7, x8, x9, .int x10, x11, x12])), (x13, .inr (8, [.ref x14, .int x15, .int x16, .int x17, x18, .int x19, .int x20])), (x21, .inl (x22, 600, .inl x23)), (x24, .inl (x25, 36, .inl x26))]
def qaOS (x0 : Nat) (x1 x2 x3 x4 x5 x6 : Value) (x7 : Nat) (x8 x9 : Value) (x10 : Int32) (x11 x12 : Value) (x13 : Nat) (x14 : ClassId) (x15 : NI) : va_W := [(x0, .inr (2, [x1, x2, x3, x4, x5, x6, .ref x7, x8, x9, .int x10, x11, x12])), (x13, .inl (x14, 36, .inl x15))]
def qaWx (x0 : Nat) (x1 x2 x3 x4 x5 x6 : Value) (x7 : Nat) (x8 x9 : Value) (x10 : Int32) (x11 x12 : Value) (x13 : Nat) (x14 : ClassId) (x15 : NI) (x16 : Nat) (x17 : ClassId) (x18 : NI) : va_W := [(x0, .inr (2, [x1, x2, x3, x4, x5, x6, .ref x7, x8, x9, .int x10, x11, x12])), (x13, .inl (x14, 600, .inl x15)), (x16, .inl (x17, 36, .inl x18))]
def qTO (x0 x1 x2 x3 x4 : Nat) (x5 x6 x7 x8 x9 x10 : Value) (x11 : Int32) (x12 : Value) (x13 : Nat) (x14 : ClassId) (x15 : NI) (x16 : Nat) (x17 : ClassId) (x18 : NI) (x19 : Nat) (x20 : ClassId) (x21 : NI) (x22 : Nat) (x23 : ClassId) (x24 : NI) : va_W := [(x0, .inr (2, [.ref x1, .ref x2, .ref x3, .ref x4, x5, x6, x7, x8, x9, x10, .int x11, x12])), (x13, .inl (x14, 8, .inl x15)), (x16, .inl (x17, 4, .inl x18)), (x19, .inl (x20, 8, .inl x21)), (x22, .inl (x23, 4, .inl x24))]
def qv6 (x0 x1 x2 x3 x4 : Nat) (x5 x6 x7 x8 : Value) (x9 : Int32) (x10 : Value) (x11 x12 : Int32) (x13 : Nat) (x14 : ClassId) (x15 : NI) (x16 : Nat) (x17 : ClassId) (x18 : NI) (x19 : Nat) (x20 : ClassId) (x21 : NI) (x22 : Nat) (x23 : ClassId) (x24 : NI) : va_W := [(x0, .inr (2, [.ref x1, .ref x2, .ref x3, .ref x4, x5, x6, x7, x8, .int x9, x10, .int x11, .int x12])), (x13, .inl (x14, 8, .inl x15)), (x16, .inl (x17, 4, .inl x18)), (x19, .inl (x20, 8, .inl x21)), (x22, .inl (x23, 4, .inl x24))]
def qoK (x0 x1 x2 : Nat) (x3 x4 : Value) (x5 : Int32) (x6 : Nat) (x7 : ClassId) (x8 : NI) (x9 : Nat) (x10 : ClassId) (x11 : NI) : va_W := [(x0, .inr (4, [.ref x1, .ref x2, x3, x4, .int x5])), (x6, .inl (x7, 150, .inl x8)), (x9, .inl (x10, 150, .inl x11))]
def qzh (x0 x1 : Nat) (x2 : Value) (x3 x4 x5 : Nat) (x6 : ClassId) (x7 : NI) (x8 : Nat) (x9 x10 x11 x12 : Value) (x13 x14 x15 : Nat) (x16 x17 : Value) (x18 : Int32) (x19 x20 : Value) (x21 : Nat) (x22 : ClassId) (x23 : NI) (x24 : Nat) (x25 : ClassId) (x26 : NI) (x27 : Nat) (x28 : ClassId) (x29 : NI) : va_W := [(x0, .inr (1, [.ref x1, x2, .ref x3, .ref x4])), (x5, .inl (x6, 64, .inl x7)), (x8, .inr (2, [x9, x10, x11, x12, .ref x13, .ref x14, .ref x15, x16, x17, .int x18, x19, x20])), (x21, .inl (x22, 36, .inl x23)), (x24, .inl (x25, 6, .inl x26)), (x27, .inl (x28, 6, .inl x29))]
def qam3 (x0 x1 : Nat) (x2 x3 x4 : Value) (x5 : Nat) (x6 : ClassId) (x7 : NI) (x8 : Nat) (x9 x10 x11 x12 : Value) (x13 x14 x15 : Nat) (x16 x17 : Value) (x18 : Int32) (x19 x20 : Value) (x21 : Nat) (x22 : ClassId) (x23 : NI) (x24 : Nat) (x25 : ClassId) (x26 : NI) (x27 : Nat) (x28 : ClassId) (x29 : NI) : va_W := [(x0, .inr (1, [.ref x1, x2, x3, x4])), (x5, .inl (x6, 64, .inl x7)), (x8, .inr (2, [x9, x10, x11, x12, .ref x13, .ref x14, .ref x15, x16, x17, .int x18, x19, x20])), (x21, .inl (x22, 36, .inl x23)), (x24, .inl (x25, 6, .inl x26)), (x27, .inl (x28, 6, .inl x29))]
def qa8I (x0 x1 : Nat) (x2 : Value) (x3 : Nat) (x4 : Value) (x5 : Nat) (x6 : ClassId) (x7 : NI) (x8 : Nat) (x9 x10 x11 x12 : Value) (x13 x14 x15 : Nat) (x16 x17 : Value) (x18 : Int32) (x19 x20 : Value) (x21 : Nat) (x22 : ClassId) (x23 : NI) (x24 : Nat) (x25 : ClassId) (x26 : NI) (x27 : Nat) (x28 : ClassId) (x29 : NI) : va_W := [(x0, .inr (1, [.ref x1, x2, .ref x3, x4])), (x5, .inl (x6, 64, .inl x7)), (x8, .inr (2, [x9, x10, x11, x12, .ref x13, .ref x14, .ref x15, x16, x17, .int x18, x19, x20])), (x21, .inl (x22, 36, .inl x23)), (x24, .inl (x25, 6, .inl x26)), (x27, .inl (x28, 6, .inl x29))]
theorem qz6 : ∀ w ∈ u_ws RX10 TX10 19, w ∈ wsX10_bouts := uiM qph qyN (by decide +kernel)
theorem qaDg : ∀ w ∈ u_ws RX2 TX2 12, w ∈ wsX10_bouts := uiM qph qLp (by decide +kernel)
theorem qaiw : (.fieldLink RX10 141 "MarchHares$Down" "hares" "I" : Cond) ∈ wsX10_bouts := qph 644 (by decide +kernel)
theorem qarF : (.fieldLink RX10 19 "MarchHares" "ground" "LMarchHares$Down;" : Cond) ∈ wsX10_bouts := qph 20 (by decide +kernel)
theorem qEX : (.fieldLink RX10 58 "MarchHares" "now" "LMarchHares$Days;" : Cond) ∈ wsX10_bouts := qph 79 (by decide +kernel)
set_option maxHeartbeats 4000000 in
set_option maxRecDepth 100000 in
theorem q3o {p : Program} {l : Launch} {e : Env} {s : State} {m : MethodId} {args : Array Value} {below : List Frame} {meth : Method} {c : Code} {A : Nat → Prop} (dC : Nat → ClassId) (dI : Nat → Nat → Nat) (cyB cyI cyJ cyP : ClassId) (a0 jaR jaT jbb : Nat) (jaK ja1 jcp jbc jbV ja3 jbH jbO jaq jac jbI jbl jbn jba jaa jdD jcB jcC jbo jbp jbk jbj jbf jbq jef jbi jcd jbr jff : Value) (jbm : Int32) (jbQ : NI) (E : String → Int32 → Prop) (Q : Int32 → Int32 → Prop) (K31 : Int32 → Int32 → Int32 → Int32 → Int32 → Prop) (hK31 : ∀ (H : Heap) (locs : List Loc) (ls : Array Slot) (jdu l1 l2 l3 l4 : Int32), va_P (dC, dI) vwCl (quP a0 jaK jaR ja1 jcp jbc jbV ja3 jbH jaT jbO jaq jac jbI jbl jbn jba jaa jdu jdD jaR jcB jcC jbo jbp jbk jbj jbf jbq jef jbm jbi jcd jaT jbb jbr jaR jff jbb cyI jbQ) H → va_D A (quP a0 jaK jaR ja1 jcp jbc jbV ja3 jbH jaT jbO jaq jac jbI jbl jbn jba jaa jdu jdD jaR jcB jcC jbo jbp jbk jbj jbf jbq jef jbm jbi jcd jaT jbb jbr jaR jff jbb cyI jbQ) → va_S A s.heap H locs → lv_has ls 5 [(0, .ref a0), (1, .int l1), (2, .int l2), (3, .int l3), (4, .int l4)] → K31 jdu l1 l2 l3 l4 → W p l e (headSpec wsX10_bouts ({ frames := 7, cells := 1, slots := 6, locals := 212 })).room s m args below meth c H locs 1 6 (vx_MQ below (va_Qi (fun (r u : Int32) => Q r u) (cB (dC, dI) (kT cyB cyI cyJ cyP) A (fun u : Int32 => ((quP a0 jaK jaR ja1 jcp jbc jbV ja3 jbH jaT jbO jaq jac jbI jbl jbn jba jaa u jdD jaR jcB jcC jbo jbp jbk jbj jbf jbq jef jbm jbi jcd jaT jbb jbr jaR jff jbb cyI jbQ) : va_W))) A) (vx_X (fun _ => True) (fun (en : String) (u : Int32) (t : State) => E en u ∧ cB (dC, dI) (kT cyB cyI cyJ cyP) A (fun u : Int32 => ((quP a0 jaK jaR ja1 jcp jbc jbV ja3 jbH jaT jbO jaq jac jbI jbl jbn jba jaa u jdD jaR jcB jcC jbo jbp jbk jbj jbf jbq jef jbm jbi jcd jaT jbb jbr jaR jff jbb cyI jbQ) : va_W)) u t) A) args s 1 6 A) (F0 m 31 ls [])) (C0 : cfx p s m args meth c cX10_bouts (some .int) wsX10_bouts RX10 5 A (dC, dI) (kT cyB cyI cyJ cyP) ∧ cfX l s c A) : ∀ (H : Heap) (locs : List Loc) (ls : Array Slot) (jdu l1 l2 l3 l4 : Int32), va_P (dC, dI) vwCl (quP a0 jaK jaR ja1 jcp jbc jbV ja3 jbH jaT jbO jaq jac jbI jbl jbn jba jaa jdu jdD jaR jcB jcC jbo jbp jbk jbj jbf jbq jef jbm jbi jcd jaT jbb jbr jaR jff jbb cyI jbQ) H → va_D A (quP a0 jaK jaR ja1 jcp jbc jbV ja3 jbH jaT jbO jaq jac jbI jbl jbn jba jaa jdu jdD jaR jcB jcC jbo jbp jbk jbj jbf jbq jef jbm jbi jcd jaT jbb jbr jaR jff jbb cyI jbQ) → va_S A s.heap H locs → lv_has ls 5 [(0, .ref a0), (1, .int l1), (2, .int l2), (3, .int l3), (4, .int l4)] → qPi jbm jbQ E Q K31 jdu l1 l2 l3 l4 → W p l e (headSpec wsX10_bouts ({ frames := 7, cells := 1, slots := 6, locals := 212 })).room s m args below meth c H locs 1 6 (vx_MQ below (va_Qi (fun (r u : Int32) => Q r u) (cB (dC, dI) (kT cyB cyI cyJ cyP) A (fun u : Int32 => ((quP a0 jaK jaR ja1 jcp jbc jbV ja3 jbH jaT jbO jaq jac jbI jbl jbn jba jaa u jdD jaR jcB jcC jbo jbp jbk jbj jbf jbq jef jbm jbi jcd jaT jbb jbr jaR jff jbb cyI jbQ) : va_W))) A) (vx_X (fun _ => True) (fun (en : String) (u : Int32) (t : State) => E en u ∧ cB (dC, dI) (kT cyB cyI cyJ cyP) A (fun u : Int32 => ((quP a0 jaK jaR ja1 jcp jbc jbV ja3 jbH jaT jbO jaq jac jbI jbl jbn jba jaa u jdD jaR jcB jcC jbo jbp jbk jbj jbf jbq jef jbm jbi jcd jaT jbb jbr jaR jff jbb cyI jbQ) : va_W)) u t) A) args s 1 6 A) (F0 m 80 ls []) := by
  obtain ⟨⟨hx, hb, hr, hts, hown, hlocks, hml, hA, hK, hNw⟩, hXs⟩ := id C0
  have hY := hXs.2
  intro H locs ls jdu l1 l2 l3 l4 hP hD hS hl hw
  obtain ⟨x11, ex11⟩ : ∃ y : Int32, y = l4 + 1 := ⟨_, rfl⟩
  have hw := hw x11 ex11
  refine lv_iinc (v := x11) (lv' := [(4, .int x11), (0, .ref a0), (1, .int l1), (2, .int l2), (3, .int l3)]) hx hb (qaa qgE 12 rfl) hl (k := 4) rfl (by rw [ex11]; rfl) (by decide) rfl (fun ls hl => ?_)
  refine lv_goto (tgt := 31) hx hb (qaa qgE 13 rfl) (by decide) ?_
  exact hK31 _ _ _ jdu l1 l2 l3 x11 hP hD hS (lv_sub hl [1, 2, 3, 4, 0] rfl) hw
set_option maxHeartbeats 4000000 in
set_option maxRecDepth 100000 in
theorem qawp {p : Program} {l : Launch} {e : Env} {s : State} {m : MethodId} {args : Array Value} {below : List Frame} {meth : Method} {c : Code} {A : Nat → Prop} (dC : Nat → ClassId) (dI : Nat → Nat → Nat) (cyB cyI cyJ cyP : ClassId) (a0 jaR jaT jbb : Nat) (jaK ja1 jcp jbc jbV ja3 jbH jbO jaq jac jbI jbl jbn jba jaa jdD jcB jcC jbo jbp jbk jbj jbf jbq jef jbi jcd jbr jff : Value) (jbm : Int32) (jbQ : NI) (E : String → Int32 → Prop) (Q : Int32 → Int32 → Prop) (C0 : cfx p s m args meth c cX10_bouts (some .int) wsX10_bouts RX10 5 A (dC, dI) (kT cyB cyI cyJ cyP) ∧ cfX l s c A) : ∀ (n : Nat) (H : Heap) (locs : List Loc) (ls : Array Slot) (jdu l1 l2 l3 l4 : Int32), va_P (dC, dI) vwCl (quP a0 jaK jaR ja1 jcp jbc jbV ja3 jbH jaT jbO jaq jac jbI jbl jbn jba jaa jdu jdD jaR jcB jcC jbo jbp jbk jbj jbf jbq jef jbm jbi jcd jaT jbb jbr jaR jff jbb cyI jbQ) H → va_D A (quP a0 jaK jaR ja1 jcp jbc jbV ja3 jbH jaT jbO jaq jac jbI jbl jbn jba jaa jdu jdD jaR jcB jcC jbo jbp jbk jbj jbf jbq jef jbm jbi jcd jaT jbb jbr jaR jff jbb cyI jbQ) → va_S A s.heap H locs → lv_has ls 5 [(0, .ref a0), (1, .int l1), (2, .int l2), (3, .int l3), (4, .int l4)] → qt3 jbm jbQ E Q n jdu l1 l2 l3 l4 → W p l e (headSpec wsX10_bouts ({ frames := 7, cells := 1, slots := 6, locals := 212 })).room s m args below meth c H locs 1 6 (vx_MQ below (va_Qi (fun (r u : Int32) => Q r u) (cB (dC, dI) (kT cyB cyI cyJ cyP) A (fun u : Int32 => ((quP a0 jaK jaR ja1 jcp jbc jbV ja3 jbH jaT jbO jaq jac jbI jbl jbn jba jaa u jdD jaR jcB jcC jbo jbp jbk jbj jbf jbq jef jbm jbi jcd jaT jbb jbr jaR jff jbb cyI jbQ) : va_W))) A) (vx_X (fun _ => True) (fun (en : String) (u : Int32) (t : State) => E en u ∧ cB (dC, dI) (kT cyB cyI cyJ cyP) A (fun u : Int32 => ((quP a0 jaK jaR ja1 jcp jbc jbV ja3 jbH jaT jbO jaq jac jbI jbl jbn jba jaa u jdD jaR jcB jcC jbo jbp jbk jbj jbf jbq jef jbm jbi jcd jaT jbb jbr jaR jff jbb cyI jbQ) : va_W)) u t) A) args s 1 6 A) (F0 m 31 ls []) := by
  obtain ⟨⟨hx, hb, hr, hts, hown, hlocks, hml, hA, hK, hNw⟩, hXs⟩ := id C0
  have hY := hXs.2
  intro n
  induction n with
  | zero => intro H locs ls jdu l1 l2 l3 l4 hP hD hS hl hw; exact False.elim hw
  | succ n ih =>
    intro H locs ls jdu l1 l2 l3 l4 hP hD hS hl hw
    refine lv_iload hx hb (qaa qhE 2 rfl) (lv_at hl 4 rfl) ?_
    refine lv_aload_n hx hb (qaa qhE 3 rfl) rfl (lv_at hl 0 rfl) ?_
    refine va_get (D := (dC, dI)) (ci := 10) (v := .ref jaR) (C := RX10) (T := TX10) (N := 19) hx hb hts qz6 hown hK hP 0 rfl rfl 1 (by decide) (hts _ qarF) (fun _ h9 => h9) rfl (qaa qhE 4 rfl) ?_
    refine va_get (D := (dC, dI)) (ci := 2) (v := .int jbm) (C := RX2) (T := TX2) (N := 12) hx hb hts qaDg hown hK hP 1 rfl rfl 9 (by decide) (hts _ qaiw) (fun _ h9 => h9) rfl (qaa qhE 5 rfl) ?_
    refine lv_icmp_ge (tgt := 86) hx hb (qaa qhE 6 rfl) (by decide) (fun c5 => ?_) (fun c5 => ?_)
    · have hw := hw.1 c5
      refine lv_iload_n hx hb (qaa qgE 14 rfl) rfl (lv_at hl 3 rfl) ?_
      exact vx_ret (W.widen (k := 1) (n := 6) (nbq rfl) (nbq rfl) (W.iret (v := l3) hx hb hr (fun t ht hW => ⟨⟨l3, (jdu), rfl, hw, by rw [ht]; exact hP, va_K.moved hW.alike hK, hD⟩, hS.F ht⟩) hS.2.2 (qaa qgE 15 rfl)))
    · have hw := hw.2 c5
      refine lv_iload_n hx hb (qaa qhE 7 rfl) rfl (lv_at hl 2 rfl) ?_
      refine lv_iload hx hb (qaa qhE 8 rfl) (lv_at hl 4 rfl) ?_
      obtain ⟨hCc, hPc, hDc, hFc⟩ := qac (ws' := []) hP hD hS hA [] (by decide +kernel) rfl
      refine va_calli (va_runS (As := [.int l2, .int l4]) (rest := []) ⟨hx, hb, hml, hown, hts⟩ (qnv l dC dI cyB cyI cyJ cyP H.size l2 l4 hw) (va_cwS 2 hts gX10_bouts_X10_holds rfl rfl rfl (by decide +kernel) ⟨nbq rfl, nbq rfl⟩) ⟨qab, qae hPc hK hDc hNw⟩ rfl rfl hl.1 rfl (lv_room (nbq rfl)) (qaa qhE 9 rfl) ⟨nbq rfl, nbq rfl⟩) hS (fun q _ h => hFc q h) hFc (fun r6 u t H1 locs ht hvm hw hB hz1 hk1 hS => ?_)
      obtain ⟨hP1, hK1, hD1⟩ := hB
      rw [ht] at hP1
      obtain ⟨hP, hD⟩ := qah (wr := (quP a0 jaK jaR ja1 jcp jbc jbV ja3 jbH jaT jbO jaq jac jbI jbl jbn jba jaa jdu jdD jaR jcB jcC jbo jbp jbk jbj jbf jbq jef jbm jbi jcd jaT jbb jbr jaR jff jbb cyI jbQ)) (w1 := []) (wn := (quP a0 jaK jaR ja1 jcp jbc jbV ja3 jbH jaT jbO jaq jac jbI jbl jbn jba jaa jdu jdD jaR jcB jcC jbo jbp jbk jbj jbf jbq jef jbm jbi jcd jaT jbb jbr jaR jff jbb cyI jbQ)) hP hD [] [0, 1, 2, 3] hCc rfl (by decide +kernel) (by decide +kernel) rfl hk1 hFc hP1 hD1
      generalize H1 = H at hP hS ⊢
      refine lv_if_eq (tgt := 80) hx hb (qaa qhE 10 rfl) (by decide) (fun c7 => ?_) (fun c7 => ?_)
      · have hw := hw.1 c7
        exact q3o dC dI cyB cyI cyJ cyP a0 jaR jaT jbb jaK ja1 jcp jbc jbV ja3 jbH jbO jaq jac jbI jbl jbn jba jaa jdD jcB jcC jbo jbp jbk jbj jbf jbq jef jbi jcd jbr jff jbm jbQ E Q (qt3 jbm jbQ E Q n) ih C0 _ _ _ jdu l1 l2 l3 l4 hP hD hS (lv_sub hl [0, 1, 2, 3, 4] rfl) hw
      · have hw := hw.2 c7
        refine lv_iload_n hx hb (qaa qhE 11 rfl) rfl (lv_at hl 3 rfl) ?_
        refine lv_aload_n hx hb (qaa qhE 12 rfl) rfl (lv_at hl 0 rfl) ?_
        refine va_get (D := (dC, dI)) (ci := 10) (v := .ref jaT) (C := RX10) (T := TX10) (N := 19) hx hb hts qz6 hown hK hP 0 rfl rfl 8 (by decide) (hts _ qEX) (fun _ h9 => h9) rfl (qaa qhE 13 rfl) ?_
        refine lv_iload_n hx hb (qaa qhE 14 rfl) rfl (lv_at hl 1 rfl) ?_
        refine lv_iload hx hb (qaa qhE 15 rfl) (lv_at hl 4 rfl) ?_
        refine lv_aload_n hx hb (qaa qgE 0 rfl) rfl (lv_at hl 0 rfl) ?_
        refine va_get (D := (dC, dI)) (ci := 10) (v := .ref jaT) (C := RX10) (T := TX10) (N := 19) hx hb hts qz6 hown hK hP 0 rfl rfl 8 (by decide) (hts _ qEX) (fun _ h9 => h9) rfl (qaa qgE 1 rfl) ?_
        refine lv_iload hx hb (qaa qgE 2 rfl) (lv_at hl 4 rfl) ?_
        obtain ⟨hCc, hPc, hDc, hFc⟩ := qac (ws' := (qSB jaT jbb jbr jaR jff jbb cyI jbQ)) hP hD hS hA [2, 3] (by decide +kernel) rfl
        refine va_calli (va_runV (As := [.int l4]) (rest := [.int l4, .int l1, .ref jaT, .int l3]) ⟨hx, hb, hml, hown, hts⟩ (qsD l dC dI cyB cyI cyJ cyP jaT jbb H.size (jbr) (.ref jaR) (jff) jbQ l4 hw) (cwV 1 hts gX10_bouts_X1_strong rfl rfl rfl (by decide +kernel) ⟨nbq rfl, nbq rfl⟩) ⟨qab, va_recv (q := (RX1, TX1, 4)) hK hPc (ci := 1) (q0 := 0) rfl rfl, qae hPc hK hDc hNw⟩ rfl rfl hl.1 rfl (lv_room (nbq rfl)) (qaa qgE 3 rfl) ⟨nbq rfl, nbq rfl⟩) hS (fun q _ h => hFc q h) hFc (fun r8 u t H1 locs ht hvm hw hB hz1 hk1 hS => ?_)
        obtain ⟨hP1, hK1, hD1⟩ := hB
        rw [ht] at hP1
        obtain ⟨hP, hD⟩ := qah (wr := (qVQ a0 jaK jaR ja1 jcp jbc jbV ja3 jbH jaT jbO jaq jac jbI jbl jbn jba jaa jdu jdD jaR jcB jcC jbo jbp jbk jbj jbf jbq jef jbm jbi jcd)) (w1 := (qSB jaT jbb jbr jaR jff jbb cyI jbQ)) (wn := (quP a0 jaK jaR ja1 jcp jbc jbV ja3 jbH jaT jbO jaq jac jbI jbl jbn jba jaa jdu jdD jaR jcB jcC jbo jbp jbk jbj jbf jbq jef jbm jbi jcd jaT jbb jbr jaR jff jbb cyI jbQ)) hP hD [2, 3] [0, 1] hCc rfl (by decide +kernel) (by decide +kernel) rfl hk1 hFc hP1 hD1
        generalize H1 = H at hP hS ⊢
        refine lv_iload_n hx hb (qaa qgE 4 rfl) rfl (lv_at hl 2 rfl) ?_
        refine lv_iconst (v := 1) hx hb (qaa qgE 5 rfl) (by decide) ?_
        refine lv_iload hx hb (qaa qgE 6 rfl) (lv_at hl 4 rfl) ?_
        refine lv_ishl hx hb (qaa qgE 7 rfl) ?_
        refine lv_ixor hx hb (qaa qgE 8 rfl) ?_
        obtain ⟨hCc, hPc, hDc, hFc⟩ := qac (ws' := (qSB jaT jbb jbr jaR jff jbb cyI jbQ)) hP hD hS hA [2, 3] (by decide +kernel) rfl
        refine va_calli (va_runS (As := [.ref jaT, .int l1, .int l4, .int r8, .int (l2 ^^^ (1 <<< (l4 &&& 31)))]) (rest := [.int l3]) ⟨hx, hb, hml, hown, hts⟩ (q9j l dC dI cyB cyI cyJ cyP jaT jbb H.size (jbr) (.ref jaR) (jff) jbQ l1 l4 r8 (l2 ^^^ (1 <<< (l4 &&& 31))) hw) (va_cwS 5 hts gX10_bouts_X10_ordersWon rfl rfl rfl (by decide +kernel) ⟨nbq rfl, nbq rfl⟩) ⟨qab, qae hPc hK hDc hNw⟩ rfl rfl hl.1 rfl (lv_room (nbq rfl)) (qaa qgE 9 rfl) ⟨nbq rfl, nbq rfl⟩) hS (fun q _ h => hFc q h) hFc (fun r9 u t H1 locs ht hvm hw hB hz1 hk1 hS => ?_)
        obtain ⟨hP1, hK1, hD1⟩ := hB
        rw [ht] at hP1
        obtain ⟨hP, hD⟩ := qah (wr := (qVQ a0 jaK jaR ja1 jcp jbc jbV ja3 jbH jaT jbO jaq jac jbI jbl jbn jba jaa jdu jdD jaR jcB jcC jbo jbp jbk jbj jbf jbq jef jbm jbi jcd)) (w1 := (qSB jaT jbb jbr jaR jff jbb cyI jbQ)) (wn := (quP a0 jaK jaR ja1 jcp jbc jbV ja3 jbH jaT jbO jaq jac jbI jbl jbn jba jaa jdu jdD jaR jcB jcC jbo jbp jbk jbj jbf jbq jef jbm jbi jcd jaT jbb jbr jaR jff jbb cyI jbQ)) hP hD [2, 3] [0, 1] hCc rfl (by decide +kernel) (by decide +kernel) rfl hk1 hFc hP1 hD1
        generalize H1 = H at hP hS ⊢
        refine lv_iadd hx hb (qaa qgE 10 rfl) ?_
        refine lv_topi (fun x10 ex10 => ?_)
        have hw := hw x10 ex10
        refine lv_istore_n (lv' := [(3, .int x10), (0, .ref a0), (1, .int l1), (2, .int l2), (4, .int l4)]) hx hb (qaa qgE 11 rfl) rfl hl (by decide) rfl (fun ls hl => ?_)
        exact q3o dC dI cyB cyI cyJ cyP a0 jaR jaT jbb jaK ja1 jcp jbc jbV ja3 jbH jbO jaq jac jbI jbl jbn jba jaa jdD jcB jcC jbo jbp jbk jbj jbf jbq jef jbi jcd jbr jff jbm jbQ E Q (qt3 jbm jbQ E Q n) ih C0 _ _ _ jdu l1 l2 x10 l4 hP hD hS (lv_sub hl [1, 2, 3, 0, 4] rfl) hw
set_option maxHeartbeats 4000000 in
set_option maxRecDepth 100000 in
theorem qaTM (l : Launch) (dC : Nat → ClassId) (dI : Nat → Nat → Nat) (cyB cyI cyJ cyP : ClassId) (a0 jaR jaT jbb sz : Nat) (jaK ja1 jcp jbc jbV ja3 jbH jbO jaq jac jbI jbl jbn jba jaa jdD jcB jcC jbo jbp jbk jbj jbf jbq jef jbi jcd jbr jff : Value) (jbm : Int32) (jbQ : NI) (jdu p1 : Int32) {E : String → Int32 → Prop} {Q : Int32 → Int32 → Prop} (hw : q2x jbm jbQ jdu p1 E Q) : vx_Met l yX10_bouts wsX10_bouts ({ frames := 7, cells := 1, slots := 6, locals := 212 }) (va_Pc [.ref a0, .int p1] (cPx l (dC, dI) (kT cyB cyI cyJ cyP) (quP a0 jaK jaR ja1 jcp jbc jbV ja3 jbH jaT jbO jaq jac jbI jbl jbn jba jaa jdu jdD jaR jcB jcC jbo jbp jbk jbj jbf jbq jef jbm jbi jcd jaT jbb jbr jaR jff jbb cyI jbQ) sz)) (va_Qi (fun (r u : Int32) => Q r u) (cB (dC, dI) (kT cyB cyI cyJ cyP) (va_A (quP a0 jaK jaR ja1 jcp jbc jbV ja3 jbH jaT jbO jaq jac jbI jbl jbn jba jaa jdu jdD jaR jcB jcC jbo jbp jbk jbj jbf jbq jef jbm jbi jcd jaT jbb jbr jaR jff jbb cyI jbQ) sz) (fun u : Int32 => ((quP a0 jaK jaR ja1 jcp jbc jbV ja3 jbH jaT jbO jaq jac jbI jbl jbn jba jaa u jdD jaR jcB jcC jbo jbp jbk jbj jbf jbq jef jbm jbi jcd jaT jbb jbr jaR jff jbb cyI jbQ) : va_W))) (va_A (quP a0 jaK jaR ja1 jcp jbc jbV ja3 jbH jaT jbO jaq jac jbI jbl jbn jba jaa jdu jdD jaR jcB jcC jbo jbp jbk jbj jbf jbq jef jbm jbi jcd jaT jbb jbr jaR jff jbb cyI jbQ) sz)) (vx_X (fun _ => True) (fun (en : String) (u : Int32) (t : State) => E en u ∧ cB (dC, dI) (kT cyB cyI cyJ cyP) (va_A (quP a0 jaK jaR ja1 jcp jbc jbV ja3 jbH jaT jbO jaq jac jbI jbl jbn jba jaa jdu jdD jaR jcB jcC jbo jbp jbk jbj jbf jbq jef jbm jbi jcd jaT jbb jbr jaR jff jbb cyI jbQ) sz) (fun u : Int32 => ((quP a0 jaK jaR ja1 jcp jbc jbV ja3 jbH jaT jbO jaq jac jbI jbl jbn jba jaa u jdD jaR jcB jcC jbo jbp jbk jbj jbf jbq jef jbm jbi jcd jaT jbb jbr jaR jff jbb cyI jbQ) : va_W)) u t) (va_A (quP a0 jaK jaR ja1 jcp jbc jbV ja3 jbH jaT jbO jaq jac jbI jbl jbn jba jaa jdu jdD jaR jcB jcC jbo jbp jbk jbj jbf jbq jef jbm jbi jcd jaT jbb jbr jaR jff jbb cyI jbQ) sz)) 1 6 (va_A (quP a0 jaK jaR ja1 jcp jbc jbV ja3 jbH jaT jbO jaq jac jbI jbl jbn jba jaa jdu jdD jaR jcB jcC jbo jbp jbk jbj jbf jbq jef jbm jbi jcd jaT jbb jbr jaR jff jbb cyI jbQ) sz) := by
  refine vx_ofW (cc := cX10_bouts) (maxL := 5) (ret := (some .int)) (by decide) rfl ?_
  intro p e s m args below meth c s₁ B hml hnt hv
  obtain ⟨rfl, hsz, hP, hK, hD0, hNw, hXl, hXu, hXn, hXt⟩ := hv
  have hx := B.exec
  have hb := B.bytes
  have hr := B.returns
  have hts := atoms_spec (ws := wsX10_bouts) B.pre
  have hown : s.vm.findClass RX10 = some m.cls := findClass_of_methodNamed B.named
  have hlocks := B.notSynchronized
  subst hsz
  have hD := hD0.self (sz := s.heap.size)
  generalize hAe : va_A (quP a0 jaK jaR ja1 jcp jbc jbV ja3 jbH jaT jbO jaq jac jbI jbl jbn jba jaa jdu jdD jaR jcB jcC jbo jbp jbk jbj jbf jbq jef jbm jbi jcd jaT jbb jbr jaR jff jbb cyI jbQ) s.heap.size = A at hD hXu hXn ⊢
  have hA : ∀ q : Nat, s.heap.size ≤ q → A q := fun q h => by rw [← hAe]; exact Or.inr h
  have hS : va_S A s.heap s.heap [] := va_S.rf
  have hP : va_P (dC, dI) vwCl (quP a0 jaK jaR ja1 jcp jbc jbV ja3 jbH jaT jbO jaq jac jbI jbl jbn jba jaa jdu jdD jaR jcB jcC jbo jbp jbk jbj jbf jbq jef jbm jbi jcd jaT jbb jbr jaR jff jbb cyI jbQ) s.heap := hP
  have hl := lv_entry ([.ref a0, .int p1]) (n := 5) (nbq rfl)
  rw [lg_entry_eq]
  generalize (lg_sl ([.ref a0, .int p1]) ++ List.replicate (5 - (lg_sl ([.ref a0, .int p1])).length) Slot.unset).toArray = ls at hl ⊢
  have hl : lv_has ls 5 [(0, .ref a0), (1, .int p1)] := hl
  have hY : cfY l s A := ⟨hXl, hXu, hXn, hXt⟩
  have hXs : cfX l s c A := ⟨hnt, hY⟩
  have C0 : cfx p s m _ meth c cX10_bouts (some .int) wsX10_bouts RX10 5 A (dC, dI) (kT cyB cyI cyJ cyP) ∧ cfX l s c A := ⟨⟨hx, hb, hr, hts, hown, hlocks, hml, hA, hK, hNw⟩, hXs⟩
  clear hAe
  obtain ⟨H, hH⟩ : ∃ H, H = s.heap := ⟨_, rfl⟩
  rw [← hH] at hP ⊢
  have hS : va_S A s.heap H [] := by rw [hH]; exact va_S.rf
  have hS := hS
  refine lv_aload_n hx hb (qaa qj9 0 rfl) rfl (lv_at hl 0 rfl) ?_
  refine lv_iload_n hx hb (qaa qj9 1 rfl) rfl (lv_at hl 1 rfl) ?_
  obtain ⟨hCc, hPc, hDc, hFc⟩ := qac (ws' := (qVQ a0 jaK jaR ja1 jcp jbc jbV ja3 jbH jaT jbO jaq jac jbI jbl jbn jba jaa jdu jdD jaR jcB jcC jbo jbp jbk jbj jbf jbq jef jbm jbi jcd)) hP hD hS hA [0, 1] (by decide +kernel) rfl
  refine vx_callv (vx_runV (As := [.int p1]) (rest := []) ⟨hx, hb, hml, hown, hts⟩ (qqu l dC dI cyB cyI cyJ cyP a0 jaR H.size (jaK) (ja1) (jcp) (jbc) (jbV) (ja3) (jbH) (.ref jaT) (jbO) (jaq) (jac) (jbI) (jbl) (jbn) (jba) (jaa) (jdD) (jcB) (jcC) (jbo) (jbp) (jbk) (jbj) (jbf) (jbq) (jef) (jbi) (jcd) jbm jdu p1 hw) (cwV 1 hts gX10_bouts_X10_needHare rfl rfl rfl (by decide +kernel) ⟨nbq rfl, nbq rfl⟩) ⟨qav, va_recv (q := (RX10, TX10, 19)) hK hPc (ci := 10) (q0 := 0) rfl rfl, qbl hPc hK hDc hNw hY hS hFc⟩ rfl rfl hl.1 rfl (lv_room (nbq rfl)) (qaa qj9 2 rfl) ⟨nbq rfl, nbq rfl⟩) hS (fun q _ h => hFc q h) hFc (fun q _ h => hFc q h) (fun en ce q9 u t H1 locs ht hvm hpx hB hz1 hk1 hS hc9 hv9 hcl9 => ?_) (fun u t H1 locs ht hvm hw hB hz1 hk1 hS => ?_)
  · obtain ⟨x1, rfl⟩ : ∃ z, z = u := ⟨_, rfl⟩
    obtain ⟨hw, hP1, hK1, hD1⟩ := hB
    rw [ht] at hP1
    obtain ⟨hP, hD⟩ := qad (wr := (qSB jaT jbb jbr jaR jff jbb cyI jbQ)) (w1 := (qVQ a0 jaK jaR ja1 jcp jbc jbV ja3 jbH jaT jbO jaq jac jbI jbl jbn jba jaa x1 jdD jaR jcB jcC jbo jbp jbk jbj jbf jbq jef jbm jbi jcd)) (wn := (quP a0 jaK jaR ja1 jcp jbc jbV ja3 jbH jaT jbO jaq jac jbI jbl jbn jba jaa x1 jdD jaR jcB jcC jbo jbp jbk jbj jbf jbq jef jbm jbi jcd jaT jbb jbr jaR jff jbb cyI jbQ)) hP hD [0, 1] [2, 3] [2, 3, 0, 1] hCc rfl (by decide +kernel) (by decide +kernel) (by decide +kernel) rfl hk1 hFc hP1 hD1
    generalize H1 = H at hP hS hc9 ⊢
    exact vx_out (fun x hx9 => (hXs.1 x hx9).elim) hlocks hc9 hv9 hcl9 (fun t2 ht2 hal2 => ⟨(x1), trivial, ⟨hw, by rw [ht2]; exact hP, va_K.moved hal2 hK, hD⟩, hS.F ht2⟩) hS.2.2 (nbq rfl) (nbq rfl)
  obtain ⟨x1, rfl⟩ : ∃ z, z = u := ⟨_, rfl⟩
  obtain ⟨hP1, hK1, hD1⟩ := hB
  rw [ht] at hP1
  obtain ⟨hP, hD⟩ := qad (wr := (qSB jaT jbb jbr jaR jff jbb cyI jbQ)) (w1 := (qVQ a0 jaK jaR ja1 jcp jbc jbV ja3 jbH jaT jbO jaq jac jbI jbl jbn jba jaa x1 jdD jaR jcB jcC jbo jbp jbk jbj jbf jbq jef jbm jbi jcd)) (wn := (quP a0 jaK jaR ja1 jcp jbc jbV ja3 jbH jaT jbO jaq jac jbI jbl jbn jba jaa x1 jdD jaR jcB jcC jbo jbp jbk jbj jbf jbq jef jbm jbi jcd jaT jbb jbr jaR jff jbb cyI jbQ)) hP hD [0, 1] [2, 3] [2, 3, 0, 1] hCc rfl (by decide +kernel) (by decide +kernel) (by decide +kernel) rfl hk1 hFc hP1 hD1
  generalize H1 = H at hP hS ⊢
  refine lv_aload_n hx hb (qaa qj9 3 rfl) rfl (lv_at hl 0 rfl) ?_
  refine va_get (D := (dC, dI)) (ci := 10) (v := .ref jaT) (C := RX10) (T := TX10) (N := 19) hx hb hts qz6 hown hK hP 0 rfl rfl 8 (by decide) (hts _ qEX) (fun _ h9 => h9) rfl (qaa qj9 4 rfl) ?_
  refine lv_iload_n hx hb (qaa qj9 5 rfl) rfl (lv_at hl 1 rfl) ?_
  obtain ⟨hCc, hPc, hDc, hFc⟩ := qac (ws' := (qSB jaT jbb jbr jaR jff jbb cyI jbQ)) hP hD hS hA [2, 3] (by decide +kernel) rfl
  refine va_calli (va_runV (As := [.int p1]) (rest := []) ⟨hx, hb, hml, hown, hts⟩ (qia l dC dI cyB cyI cyJ cyP jaT jbb H.size (jbr) (.ref jaR) (jff) jbQ p1 hw) (cwV 1 hts gX10_bouts_X1_isCaught rfl rfl rfl (by decide +kernel) ⟨nbq rfl, nbq rfl⟩) ⟨qab, va_recv (q := (RX1, TX1, 4)) hK hPc (ci := 1) (q0 := 0) rfl rfl, qae hPc hK hDc hNw⟩ rfl rfl hl.1 rfl (lv_room (nbq rfl)) (qaa qj9 6 rfl) ⟨nbq rfl, nbq rfl⟩) hS (fun q _ h => hFc q h) hFc (fun r2 u t H1 locs ht hvm hw hB hz1 hk1 hS => ?_)
  obtain ⟨hP1, hK1, hD1⟩ := hB
  rw [ht] at hP1
  obtain ⟨hP, hD⟩ := qah (wr := (qVQ a0 jaK jaR ja1 jcp jbc jbV ja3 jbH jaT jbO jaq jac jbI jbl jbn jba jaa x1 jdD jaR jcB jcC jbo jbp jbk jbj jbf jbq jef jbm jbi jcd)) (w1 := (qSB jaT jbb jbr jaR jff jbb cyI jbQ)) (wn := (quP a0 jaK jaR ja1 jcp jbc jbV ja3 jbH jaT jbO jaq jac jbI jbl jbn jba jaa x1 jdD jaR jcB jcC jbo jbp jbk jbj jbf jbq jef jbm jbi jcd jaT jbb jbr jaR jff jbb cyI jbQ)) hP hD [2, 3] [0, 1] hCc rfl (by decide +kernel) (by decide +kernel) rfl hk1 hFc hP1 hD1
  generalize H1 = H at hP hS ⊢
  refine lv_if_eq (tgt := 18) hx hb (qaa qj9 7 rfl) (by decide) (fun c3 => ?_) (fun c3 => ?_)
  · have hw := hw.1 c3
    refine lv_aload_n hx hb (qaa qj9 10 rfl) rfl (lv_at hl 0 rfl) ?_
    refine va_get (D := (dC, dI)) (ci := 10) (v := .ref jaT) (C := RX10) (T := TX10) (N := 19) hx hb hts qz6 hown hK hP 0 rfl rfl 8 (by decide) (hts _ qEX) (fun _ h9 => h9) rfl (qaa qj9 11 rfl) ?_
    obtain ⟨hCc, hPc, hDc, hFc⟩ := qac (ws' := (qvO jaT jbb jbr jaR jff jaR jcB jcC jbo jbp jbk jbj jbf jbq jef jbm jbi jcd jbb cyI jbQ)) hP hD hS hA [2, 1, 3] (by decide +kernel) rfl
    refine va_calli (va_runV (As := []) (rest := []) ⟨hx, hb, hml, hown, hts⟩ (qaHA l dC dI cyB cyI cyJ cyP jaT jaR jbb H.size (jbr) (jff) (jcB) (jcC) (jbo) (jbp) (jbk) (jbj) (jbf) (jbq) (jef) (jbi) (jcd) jbm jbQ hw) (cwV 0 hts gX10_bouts_X1_freeOnes rfl rfl rfl (by decide +kernel) ⟨nbq rfl, nbq rfl⟩) ⟨qab, va_recv (q := (RX1, TX1, 4)) hK hPc (ci := 1) (q0 := 0) rfl rfl, qae hPc hK hDc hNw⟩ rfl rfl hl.1 rfl (lv_room (nbq rfl)) (qaa qj9 12 rfl) ⟨nbq rfl, nbq rfl⟩) hS (fun q _ h => hFc q h) hFc (fun r4 u t H1 locs ht hvm hw hB hz1 hk1 hS => ?_)
    obtain ⟨hP1, hK1, hD1⟩ := hB
    rw [ht] at hP1
    obtain ⟨hP, hD⟩ := qad (wr := (qbdv a0 jaK jaR ja1 jcp jbc jbV ja3 jbH jaT jbO jaq jac jbI jbl jbn jba jaa x1 jdD)) (w1 := (qvO jaT jbb jbr jaR jff jaR jcB jcC jbo jbp jbk jbj jbf jbq jef jbm jbi jcd jbb cyI jbQ)) (wn := (quP a0 jaK jaR ja1 jcp jbc jbV ja3 jbH jaT jbO jaq jac jbI jbl jbn jba jaa x1 jdD jaR jcB jcC jbo jbp jbk jbj jbf jbq jef jbm jbi jcd jaT jbb jbr jaR jff jbb cyI jbQ)) hP hD [2, 1, 3] [0] [0, 2, 1, 3] hCc rfl (by decide +kernel) (by decide +kernel) (by decide +kernel) rfl hk1 hFc hP1 hD1
    generalize H1 = H at hP hS ⊢
    refine lv_istore_n (lv' := [(2, .int r4), (0, .ref a0), (1, .int p1)]) hx hb (qaa qj9 13 rfl) rfl hl (by decide) rfl (fun ls hl => ?_)
    refine lv_iconst (v := 0) hx hb (qaa qj9 14 rfl) (by decide) ?_
    refine lv_istore_n (lv' := [(3, .int 0), (2, .int r4), (0, .ref a0), (1, .int p1)]) hx hb (qaa qj9 15 rfl) rfl hl (by decide) rfl (fun ls hl => ?_)
    refine lv_iconst (v := 0) hx hb (qaa qhE 0 rfl) (by decide) ?_
    refine lv_istore (lv' := [(4, .int 0), (3, .int 0), (2, .int r4), (0, .ref a0), (1, .int p1)]) hx hb (qaa qhE 1 rfl) hl (by decide) rfl (fun ls hl => ?_)
    obtain ⟨n9, hw⟩ := hw
    exact qawp dC dI cyB cyI cyJ cyP a0 jaR jaT jbb jaK ja1 jcp jbc jbV ja3 jbH jbO jaq jac jbI jbl jbn jba jaa jdD jcB jcC jbo jbp jbk jbj jbf jbq jef jbi jcd jbr jff jbm jbQ E Q C0 n9 _ _ _ x1 p1 r4 0 0 hP hD hS (lv_sub hl [3, 4, 2, 1, 0] rfl) hw
  · have hw := hw.2 c3
    refine lv_iconst (v := 0) hx hb (qaa qj9 8 rfl) (by decide) ?_
    exact vx_ret (W.widen (k := 1) (n := 6) (nbq rfl) (nbq rfl) (W.iret (v := 0) hx hb hr (fun t ht hW => ⟨⟨0, (x1), rfl, hw, by rw [ht]; exact hP, va_K.moved hW.alike hK, hD⟩, hS.F ht⟩) hS.2.2 (qaa qj9 9 rfl)))
theorem qaAi : (.classLink RL 31 "java/util/NoSuchElementException" : Cond) ∈ wsL_bouts := qag1 2639 (by decide +kernel)
theorem qaP7 : (.codeWith yL_bouts cL_bouts 4 (some .int) [(0, 9, 12, 31)] : Cond) ∈ wsL_bouts := qag1 3351 (by decide +kernel)
set_option maxHeartbeats 4000000 in
set_option maxRecDepth 100000 in
theorem qa1V (l : Launch) (dC : Nat → ClassId) (dI : Nat → Nat → Nat) (cyB cyI cyJ cyP : ClassId) (a0 a2 jaR jaT jbb sz : Nat) (jaK ja1 jcp jbc jbV ja3 jbH jbO jaq jac jbI jbl jbn jba jaa jdD jcB jcC jbo jbp jbk jbj jbf jbq jef jbi jcd jbr jff : Value) (n2 : Nat) (jbm : Int32) (jbQ : NI) (jdu : Int32) (f2 : Nat → Int64) (p1 : Int32) {Q : Int32 → Int32 → (Nat → Int64) → Prop} (hw : qaLI n2 jbm jbQ jdu f2 p1 Q) : Met l yL_bouts wsL_bouts ({ frames := 8, cells := 1, slots := 6, locals := 236 }) (va_Pc [.ref a0, .int p1, .ref a2] (cPx l (dC, dI) (kT cyB cyI cyJ cyP) (qZ3 a0 jaK jaR ja1 jcp jbc jbV ja3 jbH jaT jbO jaq jac jbI jbl jbn jba jaa jdu jdD jaR jcB jcC jbo jbp jbk jbj jbf jbq jef jbm jbi jcd jaT jbb jbr jaR jff jbb cyI jbQ a2 cyJ n2 f2) sz)) (va_Qi (fun (r : Int32) (u : Int32 × (Nat → Int64)) => Q r u.1 u.2) (cB (dC, dI) (kT cyB cyI cyJ cyP) (va_A (qZ3 a0 jaK jaR ja1 jcp jbc jbV ja3 jbH jaT jbO jaq jac jbI jbl jbn jba jaa jdu jdD jaR jcB jcC jbo jbp jbk jbj jbf jbq jef jbm jbi jcd jaT jbb jbr jaR jff jbb cyI jbQ a2 cyJ n2 f2) sz) (fun u : Int32 × (Nat → Int64) => ((qZ3 a0 jaK jaR ja1 jcp jbc jbV ja3 jbH jaT jbO jaq jac jbI jbl jbn jba jaa u.1 jdD jaR jcB jcC jbo jbp jbk jbj jbf jbq jef jbm jbi jcd jaT jbb jbr jaR jff jbb cyI jbQ a2 cyJ n2 u.2) : va_W))) (va_A (qZ3 a0 jaK jaR ja1 jcp jbc jbV ja3 jbH jaT jbO jaq jac jbI jbl jbn jba jaa jdu jdD jaR jcB jcC jbo jbp jbk jbj jbf jbq jef jbm jbi jcd jaT jbb jbr jaR jff jbb cyI jbQ a2 cyJ n2 f2) sz)) 1 6 (va_A (qZ3 a0 jaK jaR ja1 jcp jbc jbV ja3 jbH jaT jbO jaq jac jbI jbl jbn jba jaa jdu jdD jaR jcB jcC jbo jbp jbk jbj jbf jbq jef jbm jbi jcd jaT jbb jbr jaR jff jbb cyI jbQ a2 cyJ n2 f2) sz) := by
  refine va_MetW (cc := cL_bouts) (maxL := 4) (ret := (some .int)) (by decide) rfl ?_
  intro p e s m args below meth c s₁ B hml hv
  obtain ⟨rfl, hsz, hP, hK, hD0, hNw, hXl, hXu, hXn, hXt⟩ := hv
  have hx := B.exec
  have hb := B.bytes
  have hr := B.returns
  have hts := atoms_spec (ws := wsL_bouts) B.pre
  have hown : s.vm.findClass RL = some m.cls := findClass_of_methodNamed B.named
  have hlocks := B.notSynchronized
  subst hsz
  have hD := hD0.self (sz := s.heap.size)
  generalize hAe : va_A (qZ3 a0 jaK jaR ja1 jcp jbc jbV ja3 jbH jaT jbO jaq jac jbI jbl jbn jba jaa jdu jdD jaR jcB jcC jbo jbp jbk jbj jbf jbq jef jbm jbi jcd jaT jbb jbr jaR jff jbb cyI jbQ a2 cyJ n2 f2) s.heap.size = A at hD hXu hXn ⊢
  have hA : ∀ q : Nat, s.heap.size ≤ q → A q := fun q h => by rw [← hAe]; exact Or.inr h
  have hS : va_S A s.heap s.heap [] := va_S.rf
  have hP : va_P (dC, dI) vwCl (qZ3 a0 jaK jaR ja1 jcp jbc jbV ja3 jbH jaT jbO jaq jac jbI jbl jbn jba jaa jdu jdD jaR jcB jcC jbo jbp jbk jbj jbf jbq jef jbm jbi jcd jaT jbb jbr jaR jff jbb cyI jbQ a2 cyJ n2 f2) s.heap := hP
  have hl := lv_entry ([.ref a0, .int p1, .ref a2]) (n := 4) (nbq rfl)
  rw [lg_entry_eq]
  generalize (lg_sl ([.ref a0, .int p1, .ref a2]) ++ List.replicate (4 - (lg_sl ([.ref a0, .int p1, .ref a2])).length) Slot.unset).toArray = ls at hl ⊢
  have hl : lv_has ls 4 [(0, .ref a0), (1, .int p1), (2, .ref a2)] := hl
  have hY : cfY l s A := ⟨hXl, hXu, hXn, hXt⟩
  have hTb := vx_table (x := yL_bouts) B (hts _ qaP7)
  clear hAe
  obtain ⟨H, hH⟩ : ∃ H, H = s.heap := ⟨_, rfl⟩
  rw [← hH] at hP ⊢
  have hS : va_S A s.heap H [] := by rw [hH]; exact va_S.rf
  have hS := hS
  refine lv_aload_n hx hb (qaa qrf 0 rfl) rfl (lv_at hl 2 rfl) ?_
  refine lv_iconst (v := 0) hx hb (qaa qrf 1 rfl) (by decide) ?_
  refine lv_aload_n hx hb (qaa qrf 2 rfl) rfl (lv_at hl 0 rfl) ?_
  refine lv_iload_n hx hb (qaa qrf 3 rfl) rfl (lv_at hl 1 rfl) ?_
  obtain ⟨hCc, hPc, hDc, hFc⟩ := qac (ws' := (quP a0 jaK jaR ja1 jcp jbc jbV ja3 jbH jaT jbO jaq jac jbI jbl jbn jba jaa jdu jdD jaR jcB jcC jbo jbp jbk jbj jbf jbq jef jbm jbi jcd jaT jbb jbr jaR jff jbb cyI jbQ)) hP hD hS hA [0, 1, 2, 3] (by decide +kernel) rfl
  refine vx_calli (vx_runV (As := [.int p1]) (rest := [.int 0, .ref a2]) ⟨hx, hb, hml, hown, hts⟩ (qaTM l dC dI cyB cyI cyJ cyP a0 jaR jaT jbb H.size (jaK) (ja1) (jcp) (jbc) (jbV) (ja3) (jbH) (jbO) (jaq) (jac) (jbI) (jbl) (jbn) (jba) (jaa) (jdD) (jcB) (jcC) (jbo) (jbp) (jbk) (jbj) (jbf) (jbq) (jef) (jbi) (jcd) (jbr) (jff) jbm jbQ jdu p1 hw) (cwV 1 hts gL_bouts_X10_bouts rfl rfl rfl (by decide +kernel) ⟨nbq rfl, nbq rfl⟩) ⟨qav, va_recv (q := (RX10, TX10, 19)) hK hPc (ci := 10) (q0 := 0) rfl rfl, qbl hPc hK hDc hNw hY hS hFc⟩ rfl rfl hl.1 rfl (lv_room (nbq rfl)) (qaa qrf 4 rfl) ⟨nbq rfl, nbq rfl⟩) hS (fun q _ h => hFc q h) hFc (fun q _ h => hFc q h) (fun en ce qx9 u t H1 locs ht hvm hpx hB hz1 hk1 hS hc9 hv9 hcl9 => ?_) (fun r2 u t H1 locs ht hvm hw hB hz1 hk1 hS => ?_)
  · obtain ⟨x1, rfl⟩ : ∃ z, z = u := ⟨_, rfl⟩
    obtain ⟨hw, hP1, hK1, hD1⟩ := hB
    rw [ht] at hP1
    obtain ⟨hP, hD⟩ := qad (wr := [(a2, .inl (cyJ, n2, .inr (.inl f2)))]) (w1 := (quP a0 jaK jaR ja1 jcp jbc jbV ja3 jbH jaT jbO jaq jac jbI jbl jbn jba jaa x1 jdD jaR jcB jcC jbo jbp jbk jbj jbf jbq jef jbm jbi jcd jaT jbb jbr jaR jff jbb cyI jbQ)) (wn := (qZ3 a0 jaK jaR ja1 jcp jbc jbV ja3 jbH jaT jbO jaq jac jbI jbl jbn jba jaa x1 jdD jaR jcB jcC jbo jbp jbk jbj jbf jbq jef jbm jbi jcd jaT jbb jbr jaR jff jbb cyI jbQ a2 cyJ n2 f2)) hP hD [0, 1, 2, 3] [4] [1, 2, 3, 4, 0] hCc rfl (by decide +kernel) (by decide +kernel) (by decide +kernel) rfl hk1 hFc hP1 hD1
    generalize H1 = H at hP hS hc9 ⊢
    obtain ⟨rfl, hw⟩ := hw
    refine vx_catch (own := RL) (name := "java/util/NoSuchElementException") hown [] ⟨0, 9, 12, 31⟩ [] (hTb.trans rfl) (fun z hz => nomatch hz) (by decide) (by decide) (hts _ qaAi) (va_Nw.use rfl (hY.2.2.2.1.2 _ (List.mem_of_getElem? (i := 1) rfl))) hc9 hv9 hcl9 ?_
    refine lv_astore_n (lv' := [(3, .ref qx9), (0, .ref a0), (1, .int p1), (2, .ref a2)]) hx hb (qaa qrf 8 rfl) rfl hl (by decide) rfl (fun ls hl => ?_)
    refine lv_iconst (v := 1) hx hb (qaa qrf 9 rfl) (by decide) ?_
    exact (W.widen (k := 1) (n := 6) (nbq rfl) (nbq rfl) (W.iret (v := 1) hx hb hr (fun t ht hW => ⟨⟨1, (x1, f2), rfl, hw, by rw [ht]; exact hP, va_K.moved hW.alike hK, hD⟩, hS.F ht⟩) hS.2.2 (qaa qrf 10 rfl)))
  obtain ⟨x1, rfl⟩ : ∃ z, z = u := ⟨_, rfl⟩
  obtain ⟨hP1, hK1, hD1⟩ := hB
  rw [ht] at hP1
  obtain ⟨hP, hD⟩ := va_join (wr := [(a2, .inl (cyJ, n2, .inr (.inl f2)))]) (w1 := (quP a0 jaK jaR ja1 jcp jbc jbV ja3 jbH jaT jbO jaq jac jbI jbl jbn jba jaa x1 jdD jaR jcB jcC jbo jbp jbk jbj jbf jbq jef jbm jbi jcd jaT jbb jbr jaR jff jbb cyI jbQ)) hP hD [0, 1, 2, 3] [4] rfl rfl (by decide) (by decide) hk1 hFc hP1 hD1
  have hP : va_P (dC, dI) vwCl (qZ3 a0 jaK jaR ja1 jcp jbc jbV ja3 jbH jaT jbO jaq jac jbI jbl jbn jba jaa x1 jdD jaR jcB jcC jbo jbp jbk jbj jbf jbq jef jbm jbi jcd jaT jbb jbr jaR jff jbb cyI jbQ a2 cyJ n2 f2) H1 := hP.sub [1, 2, 3, 4, 0] rfl
  have hD : va_D A (qZ3 a0 jaK jaR ja1 jcp jbc jbV ja3 jbH jaT jbO jaq jac jbI jbl jbn jba jaa x1 jdD jaR jcB jcC jbo jbp jbk jbj jbf jbq jef jbm jbi jcd jaT jbb jbr jaR jff jbb cyI jbQ a2 cyJ n2 f2) := hD.sub [1, 2, 3, 4, 0] (by decide) rfl
  generalize H1 = H at hP hS ⊢
  refine lv_i2l (v := r2.toInt64) hx hb (qaa qrf 5 rfl) rfl ?_
  refine lv_topl (fun x3 ex3 => ?_)
  have hw := hw x3 ex3
  obtain ⟨hi9, hw⟩ := hw
  refine va_last hx hb hK hP hD hS 4 2 rfl rfl hi9 (qaa qrf 6 rfl) (fun H locs hP hD hS => ?_)
  obtain ⟨f4, ef4⟩ : ∃ y : Nat → Int64, y = vp_updL f2 (0 : Int32).toNatClampNeg x3 := ⟨_, rfl⟩
  have hw := hw f4 ef4
  have hP : va_P (dC, dI) vwCl (qZ3 a0 jaK jaR ja1 jcp jbc jbV ja3 jbH jaT jbO jaq jac jbI jbl jbn jba jaa x1 jdD jaR jcB jcC jbo jbp jbk jbj jbf jbq jef jbm jbi jcd jaT jbb jbr jaR jff jbb cyI jbQ a2 cyJ n2 f4) H := by rw [ef4]; exact hP
  have hD : va_D A (qZ3 a0 jaK jaR ja1 jcp jbc jbV ja3 jbH jaT jbO jaq jac jbI jbl jbn jba jaa x1 jdD jaR jcB jcC jbo jbp jbk jbj jbf jbq jef jbm jbi jcd jaT jbb jbr jaR jff jbb cyI jbQ a2 cyJ n2 f4) := by rw [ef4]; exact hD
  refine lv_goto (tgt := 15) hx hb (qaa qrf 7 rfl) (by decide) ?_
  refine lv_iconst (v := 0) hx hb (qaa qrf 11 rfl) (by decide) ?_
  exact (W.widen (k := 1) (n := 6) (nbq rfl) (nbq rfl) (W.iret (v := 0) hx hb hr (fun t ht hW => ⟨⟨0, (x1, f4), rfl, hw, by rw [ht]; exact hP, va_K.moved hW.alike hK, hD⟩, hS.F ht⟩) hS.2.2 (qaa qrf 12 rfl)))
theorem qaaC : ∀ w ∈ (qqx RX10 268 "java/util/NoSuchElementException" 13 qxA ["java/lang/RuntimeException", "java/lang/Exception"]).filter (fun w => !goodWord w), w ∈ xB := by decide +kernel
theorem qaar : ∀ w ∈ Cond.classLink RX10 264 "java/util/NoSuchElementException" :: Cond.initialized "java/util/NoSuchElementException" :: qqx RX10 268 "java/util/NoSuchElementException" 13 qxA ["java/lang/RuntimeException", "java/lang/Exception"], vx_ot w = true := by decide +kernel
theorem qaaU : ∀ w ∈ (qqx RX10 268 "java/util/NoSuchElementException" 13 qxA ["java/lang/RuntimeException", "java/lang/Exception"]).filter goodWord, w ∈ wsX10_needForm := by decide +kernel
theorem qFE : ∀ w ∈ u_ws RX10 TX10 19, w ∈ wsX10_needForm := uiM qtP qyN (by decide +kernel)
theorem qaeg : ∀ w ∈ u_ws RX2 TX2 12, w ∈ wsX10_needForm := uiM qtP qLp (by decide +kernel)
theorem q2O : (.classLink RX10 264 "java/util/NoSuchElementException" : Cond) ∈ wsX10_needForm := qtP 2690 (by decide +kernel)
theorem q59 : (.fieldLink RX10 149 "MarchHares$Down" "forms" "I" : Cond) ∈ wsX10_needForm := qtP 1557 (by decide +kernel)
theorem qab6 : (.fieldLink RX10 19 "MarchHares" "ground" "LMarchHares$Down;" : Cond) ∈ wsX10_needForm := qtP 20 (by decide +kernel)
theorem qNL : (.fieldLink RX10 261 "MarchHares" "callsNoSuch" "I" : Cond) ∈ wsX10_needForm := qtP 2692 (by decide +kernel)
theorem q0t : (.initialized "java/util/NoSuchElementException" : Cond) ∈ wsX10_needForm := qtP 2691 (by decide +kernel)
set_option maxHeartbeats 4000000 in
set_option maxRecDepth 100000 in
theorem qyj (l : Launch) (dC : Nat → ClassId) (dI : Nat → Nat → Nat) (cyB cyI cyJ cyP : ClassId) (a0 jaR sz : Nat) (jaK ja1 jcp jbc jbV ja3 jbH ja2 jbO jaq jac jbI jbl jbn jba jaa jdD jcB jcC jbo jbp jbk jbj jbf jbq jgP jbi jcd : Value) (jbE jdu p1 : Int32) {E : String → Int32 → Prop} {Q : Int32 → Prop} (hw : qt0 jbE jdu p1 E Q) : vx_Met l yX10_needForm wsX10_needForm ({ frames := 6, cells := 1, slots := 6, locals := 120 }) (va_Pc [.ref a0, .int p1] (cPx l (dC, dI) (kT cyB cyI cyJ cyP) (qRF a0 jaK jaR ja1 jcp jbc jbV ja3 jbH ja2 jbO jaq jac jbI jbl jbn jba jaa jdu jdD jaR jcB jcC jbo jbp jbk jbj jbf jbq jbE jgP jbi jcd) sz)) (va_Qv (fun (u : Int32) => Q u) (cB (dC, dI) (kT cyB cyI cyJ cyP) (va_A (qRF a0 jaK jaR ja1 jcp jbc jbV ja3 jbH ja2 jbO jaq jac jbI jbl jbn jba jaa jdu jdD jaR jcB jcC jbo jbp jbk jbj jbf jbq jbE jgP jbi jcd) sz) (fun u : Int32 => ((qRF a0 jaK jaR ja1 jcp jbc jbV ja3 jbH ja2 jbO jaq jac jbI jbl jbn jba jaa u jdD jaR jcB jcC jbo jbp jbk jbj jbf jbq jbE jgP jbi jcd) : va_W))) (va_A (qRF a0 jaK jaR ja1 jcp jbc jbV ja3 jbH ja2 jbO jaq jac jbI jbl jbn jba jaa jdu jdD jaR jcB jcC jbo jbp jbk jbj jbf jbq jbE jgP jbi jcd) sz)) (vx_X (fun _ => True) (fun (en : String) (u : Int32) (t : State) => E en u ∧ cB (dC, dI) (kT cyB cyI cyJ cyP) (va_A (qRF a0 jaK jaR ja1 jcp jbc jbV ja3 jbH ja2 jbO jaq jac jbI jbl jbn jba jaa jdu jdD jaR jcB jcC jbo jbp jbk jbj jbf jbq jbE jgP jbi jcd) sz) (fun u : Int32 => ((qRF a0 jaK jaR ja1 jcp jbc jbV ja3 jbH ja2 jbO jaq jac jbI jbl jbn jba jaa u jdD jaR jcB jcC jbo jbp jbk jbj jbf jbq jbE jgP jbi jcd) : va_W)) u t) (va_A (qRF a0 jaK jaR ja1 jcp jbc jbV ja3 jbH ja2 jbO jaq jac jbI jbl jbn jba jaa jdu jdD jaR jcB jcC jbo jbp jbk jbj jbf jbq jbE jgP jbi jcd) sz)) 1 6 (va_A (qRF a0 jaK jaR ja1 jcp jbc jbV ja3 jbH ja2 jbO jaq jac jbI jbl jbn jba jaa jdu jdD jaR jcB jcC jbo jbp jbk jbj jbf jbq jbE jgP jbi jcd) sz) := by
  refine vx_ofW (cc := cX10_needForm) (maxL := 2) (ret := none) (by decide) rfl ?_
  intro p e s m args below meth c s₁ B hml hnt hv
  obtain ⟨rfl, hsz, hP, hK, hD0, hNw, hXl, hXu, hXn, hXt⟩ := hv
  have hx := B.exec
  have hb := B.bytes
  have hr := B.returns
  have hts := atoms_spec (ws := wsX10_needForm) B.pre
  have hown : s.vm.findClass RX10 = some m.cls := findClass_of_methodNamed B.named
  have hlocks := B.notSynchronized
  subst hsz
  have hD := hD0.self (sz := s.heap.size)
  generalize hAe : va_A (qRF a0 jaK jaR ja1 jcp jbc jbV ja3 jbH ja2 jbO jaq jac jbI jbl jbn jba jaa jdu jdD jaR jcB jcC jbo jbp jbk jbj jbf jbq jbE jgP jbi jcd) s.heap.size = A at hD hXu hXn ⊢
  have hA : ∀ q : Nat, s.heap.size ≤ q → A q := fun q h => by rw [← hAe]; exact Or.inr h
  have hS : va_S A s.heap s.heap [] := va_S.rf
  have hP : va_P (dC, dI) vwCl (qRF a0 jaK jaR ja1 jcp jbc jbV ja3 jbH ja2 jbO jaq jac jbI jbl jbn jba jaa jdu jdD jaR jcB jcC jbo jbp jbk jbj jbf jbq jbE jgP jbi jcd) s.heap := hP
  have hl := lv_entry ([.ref a0, .int p1]) (n := 2) (nbq rfl)
  rw [lg_entry_eq]
  generalize (lg_sl ([.ref a0, .int p1]) ++ List.replicate (2 - (lg_sl ([.ref a0, .int p1])).length) Slot.unset).toArray = ls at hl ⊢
  have hl : lv_has ls 2 [(0, .ref a0), (1, .int p1)] := hl
  have hY : cfY l s A := ⟨hXl, hXu, hXn, hXt⟩
  have hXs : cfX l s c A := ⟨hnt, hY⟩
  have C0 : cfx p s m _ meth c cX10_needForm none wsX10_needForm RX10 2 A (dC, dI) (kT cyB cyI cyJ cyP) ∧ cfX l s c A := ⟨⟨hx, hb, hr, hts, hown, hlocks, hml, hA, hK, hNw⟩, hXs⟩
  clear hAe
  obtain ⟨H, hH⟩ : ∃ H, H = s.heap := ⟨_, rfl⟩
  rw [← hH] at hP ⊢
  have hS : va_S A s.heap H [] := by rw [hH]; exact va_S.rf
  have hS := hS
  refine lv_iload_n hx hb (qaa qej 0 rfl) rfl (lv_at hl 1 rfl) ?_
  refine lv_iconst (v := 0) hx hb (qaa qej 1 rfl) (by decide) ?_
  refine lv_aload_n hx hb (qaa qej 2 rfl) rfl (lv_at hl 0 rfl) ?_
  refine va_get (D := (dC, dI)) (ci := 10) (v := .ref jaR) (C := RX10) (T := TX10) (N := 19) hx hb hts qFE hown hK hP 0 rfl rfl 1 (by decide) (hts _ qab6) (fun _ h9 => h9) rfl (qaa qej 3 rfl) ?_
  refine va_get (D := (dC, dI)) (ci := 2) (v := .int jbE) (C := RX2) (T := TX2) (N := 12) hx hb hts qaeg hown hK hP 1 rfl rfl 8 (by decide) (hts _ q59) (fun _ h9 => h9) rfl (qaa qej 4 rfl) ?_
  refine lv_iconst (v := 1) hx hb (qaa qej 5 rfl) (by decide) ?_
  refine lv_isub hx hb (qaa qej 6 rfl) ?_
  obtain ⟨hCc, hPc, hDc, hFc⟩ := qac (ws' := []) hP hD hS hA [] (by decide +kernel) rfl
  refine va_calli (va_runS (As := [.int p1, .int 0, .int (jbE - 1)]) (rest := []) ⟨hx, hb, hml, hown, hts⟩ (qzC l dC dI cyB cyI cyJ cyP H.size p1 0 (jbE - 1) hw) (va_cwS 3 hts gX10_needForm_X10_within rfl rfl rfl (by decide +kernel) ⟨nbq rfl, nbq rfl⟩) ⟨qab, qae hPc hK hDc hNw⟩ rfl rfl hl.1 rfl (lv_room (nbq rfl)) (qaa qej 7 rfl) ⟨nbq rfl, nbq rfl⟩) hS (fun q _ h => hFc q h) hFc (fun r1 u t H1 locs ht hvm hw hB hz1 hk1 hS => ?_)
  obtain ⟨hP1, hK1, hD1⟩ := hB
  rw [ht] at hP1
  obtain ⟨hP, hD⟩ := qah (wr := (qRF a0 jaK jaR ja1 jcp jbc jbV ja3 jbH ja2 jbO jaq jac jbI jbl jbn jba jaa jdu jdD jaR jcB jcC jbo jbp jbk jbj jbf jbq jbE jgP jbi jcd)) (w1 := []) (wn := (qRF a0 jaK jaR ja1 jcp jbc jbV ja3 jbH ja2 jbO jaq jac jbI jbl jbn jba jaa jdu jdD jaR jcB jcC jbo jbp jbk jbj jbf jbq jbE jgP jbi jcd)) hP hD [] [0, 1] hCc rfl (by decide +kernel) (by decide +kernel) rfl hk1 hFc hP1 hD1
  generalize H1 = H at hP hS ⊢
  refine lv_if_ne (tgt := 38) hx hb (qaa qej 8 rfl) (by decide) (fun c2 => ?_) (fun c2 => ?_)
  · have hw := hw.1 c2
    exact vx_ret (W.widen (k := 1) (n := 6) (nbq rfl) (nbq rfl) (W.vret hx hb hr (fun t ht hW => ⟨⟨(jdu), rfl, hw, by rw [ht]; exact hP, va_K.moved hW.alike hK, hD⟩, hS.F ht⟩) hS.2.2 (qaa qxn 4 rfl)))
  · have hw := hw.2 c2
    refine lv_aload_n hx hb (qaa qej 9 rfl) rfl (lv_at hl 0 rfl) ?_
    refine lv_dup hx hb (qaa qej 10 rfl) rfl ?_
    refine va_get (D := (dC, dI)) (ci := 10) (v := .int jdu) (C := RX10) (T := TX10) (N := 19) hx hb hts qFE hown hK hP 0 rfl rfl 17 (by decide) (hts _ qNL) (fun _ h9 => h9) rfl (qaa qej 11 rfl) ?_
    refine lv_iconst (v := 1) hx hb (qaa qej 12 rfl) (by decide) ?_
    refine lv_iadd hx hb (qaa qej 13 rfl) ?_
    refine lv_topi (fun x3 ex3 => ?_)
    have hw := hw x3 ex3
    refine va_put (D := (dC, dI)) (ci := 10) (v := .int x3) (ty := .int) (C := RX10) (T := TX10) (N := 19) hx hb hts qFE tyX10 tyX10_ok nmX10 hown hK hP hD hS 0 rfl rfl 17 (by decide) (hts _ qNL) (fun _ h9 => h9) rfl (by decide +kernel) rfl rfl (nbq rfl) (qaa qej 14 rfl) (fun H locs hP hD hS => ?_)
    have hP : va_P (dC, dI) vwCl (qRF a0 jaK jaR ja1 jcp jbc jbV ja3 jbH ja2 jbO jaq jac jbI jbl jbn jba jaa x3 jdD jaR jcB jcC jbo jbp jbk jbj jbf jbq jbE jgP jbi jcd) H := hP
    have hD : va_D A (qRF a0 jaK jaR ja1 jcp jbc jbV ja3 jbH ja2 jbO jaq jac jbI jbl jbn jba jaa x3 jdD jaR jcB jcC jbo jbp jbk jbj jbf jbq jbE jgP jbi jcd) := hD
    obtain ⟨sa9, hsa9⟩ := hY.2.2.2.2.1 _ (List.mem_of_getElem? (i := 0) rfl)
    exact qakp hx hb hY.1 (own := RX10) (cls := "java/util/NoSuchElementException") (names := ["java/lang/RuntimeException", "java/lang/Exception"]) (ik := 264) (is := 401) (ic := 268) (rx := qxA) (by decide +kernel) (by decide +kernel) (by decide +kernel) (by decide +kernel) hown (by decide +kernel) (by decide +kernel) (hts _ q2O) (hts _ q0t) hsa9 (vx_hat (fun w hw9 => hts w (qaaU w hw9)) qaaC (qa1a hY.2.2.2.1)) qaar hY.2.1 hY.2.2.1 hS (by rw [hml]; exact hl.1) (qaa qej 15 rfl) (qaa qxn 0 rfl) (qaa qxn 1 rfl) (qaa qxn 2 rfl) (qaa qxn 3 rfl) (fun x hx9 => (hXs.1 x hx9).elim) (nbq rfl) (nbq rfl) (nbq rfl) (nbq rfl) hlocks (fun t hal hsz9 hq9 => ⟨(x3), trivial, ⟨hw, hP.kept (fun k q hk9 => hq9 _ ((hP k q hk9).lt)), va_K.moved hal hK, hD⟩, qau3 hS hsz9 hq9⟩) hS.2.2 (nbq rfl) (nbq rfl)
theorem qKI : ∀ w ∈ u_ws RX2 TX2 12, w ∈ wsX2_apart := uiM qJ5 qLp (by decide +kernel)
theorem q2C : (.fieldLink RX2 15 "MarchHares$Down" "formY" "[I" : Cond) ∈ wsX2_apart := qJ5 149 (by decide +kernel)
theorem q7T : (.fieldLink RX2 9 "MarchHares$Down" "formX" "[I" : Cond) ∈ wsX2_apart := qJ5 148 (by decide +kernel)
theorem qYU : (.initialized "java/lang/Math" : Cond) ∈ wsX2_apart := qJ5 651 (by decide +kernel)
theorem qZx : (.methodLink RX2 108 Lib.Math.abs.name : Cond) ∈ wsX2_apart := qJ5 1092 (by decide +kernel)
theorem qUO : (.code Lib.Math.abs.name Lib.Math.abs.code 1 (some .int) : Cond) ∈ wsX2_apart := qJ5 1094 (by decide +kernel)
theorem qVp : (.static Lib.Math.abs.name : Cond) ∈ wsX2_apart := qJ5 1093 (by decide +kernel)
set_option maxHeartbeats 4000000 in
set_option maxRecDepth 100000 in
theorem qBF (l : Launch) (dC : Nat → ClassId) (dI : Nat → Nat → Nat) (cyB cyI cyJ cyP : ClassId) (a0 jha jhj sz : Nat) (jlc jld jkJ jiU jj1 jjT ja0 ja4 jaP jkk : Value) (jiS jiP : NI) (p1 p2 : Int32) {Q : Int32 → Prop} (hw : qv4 jiS jiP p1 p2 Q) : Met l yX2_apart wsX2_apart ({ frames := 1, cells := 0, slots := 0, locals := 32 }) (va_Pc [.ref a0, .int p1, .int p2] (cPc (dC, dI) (kT cyB cyI cyJ cyP) (qay1 a0 jha jhj jlc jld jkJ jiU jj1 jjT ja0 ja4 jaP jkk jha cyI jiS jhj cyI jiP) sz)) (va_Qi (fun (r : Int32) (_ : Unit) => Q r ) (cB (dC, dI) (kT cyB cyI cyJ cyP) (va_A (qay1 a0 jha jhj jlc jld jkJ jiU jj1 jjT ja0 ja4 jaP jkk jha cyI jiS jhj cyI jiP) sz) (fun u : Unit => ((qay1 a0 jha jhj jlc jld jkJ jiU jj1 jjT ja0 ja4 jaP jkk jha cyI jiS jhj cyI jiP) : va_W))) (va_A (qay1 a0 jha jhj jlc jld jkJ jiU jj1 jjT ja0 ja4 jaP jkk jha cyI jiS jhj cyI jiP) sz)) 0 0 (va_A (qay1 a0 jha jhj jlc jld jkJ jiU jj1 jjT ja0 ja4 jaP jkk jha cyI jiS jhj cyI jiP) sz) := by
  refine Met.ofW (cc := cX2_apart) (maxL := 3) (ret := (some .int)) (by decide) rfl ?_
  intro p e s m args below meth c s₁ B hml hv
  obtain ⟨rfl, hsz, hP, hK, hD0, hNw⟩ := hv
  have hx := B.exec
  have hb := B.bytes
  have hr := B.returns
  have hts := atoms_spec (ws := wsX2_apart) B.pre
  have hown : s.vm.findClass RX2 = some m.cls := findClass_of_methodNamed B.named
  have hlocks := B.notSynchronized
  subst hsz
  have hD := hD0.self (sz := s.heap.size)
  generalize hAe : va_A (qay1 a0 jha jhj jlc jld jkJ jiU jj1 jjT ja0 ja4 jaP jkk jha cyI jiS jhj cyI jiP) s.heap.size = A at hD ⊢
  have hA : ∀ q : Nat, s.heap.size ≤ q → A q := fun q h => by rw [← hAe]; exact Or.inr h
  have hS : va_S A s.heap s.heap [] := va_S.rf
  have hP : va_P (dC, dI) vwCl (qay1 a0 jha jhj jlc jld jkJ jiU jj1 jjT ja0 ja4 jaP jkk jha cyI jiS jhj cyI jiP) s.heap := hP
  have hl := lv_entry ([.ref a0, .int p1, .int p2]) (n := 3) (nbq rfl)
  rw [lg_entry_eq]
  generalize (lg_sl ([.ref a0, .int p1, .int p2]) ++ List.replicate (3 - (lg_sl ([.ref a0, .int p1, .int p2])).length) Slot.unset).toArray = ls at hl ⊢
  have hl : lv_has ls 3 [(0, .ref a0), (1, .int p1), (2, .int p2)] := hl
  have C0 : cfx p s m _ meth c cX2_apart (some .int) wsX2_apart RX2 3 A (dC, dI) (kT cyB cyI cyJ cyP) := ⟨hx, hb, hr, hts, hown, hlocks, hml, hA, hK, hNw⟩
  clear hAe
  obtain ⟨H, hH⟩ : ∃ H, H = s.heap := ⟨_, rfl⟩
  rw [← hH] at hP ⊢
  have hS : va_S A s.heap H [] := by rw [hH]; exact va_S.rf
  have hS := hS
  refine lv_aload_n hx hb (qaa qmA 0 rfl) rfl (lv_at hl 0 rfl) ?_
  refine va_get (D := (dC, dI)) (ci := 2) (v := .ref jha) (C := RX2) (T := TX2) (N := 12) hx hb hts qKI hown hK hP 0 rfl rfl 0 (by decide) (hts _ q7T) (fun _ h9 => h9) rfl (qaa qmA 1 rfl) ?_
  refine lv_iload_n hx hb (qaa qmA 2 rfl) rfl (lv_at hl 1 rfl) ?_
  obtain ⟨hi9, hw⟩ := hw
  refine va_iald hx hb hK hP 1 1 rfl rfl hi9 (qaa qmA 3 rfl) ?_
  refine lv_topi (fun x1 ex1 => ?_)
  have hw := hw x1 ex1
  refine lv_aload_n hx hb (qaa qmA 4 rfl) rfl (lv_at hl 0 rfl) ?_
  refine va_get (D := (dC, dI)) (ci := 2) (v := .ref jha) (C := RX2) (T := TX2) (N := 12) hx hb hts qKI hown hK hP 0 rfl rfl 0 (by decide) (hts _ q7T) (fun _ h9 => h9) rfl (qaa qmA 5 rfl) ?_
  refine lv_iload_n hx hb (qaa qmA 6 rfl) rfl (lv_at hl 2 rfl) ?_
  obtain ⟨hi9, hw⟩ := hw
  refine va_iald hx hb hK hP 1 1 rfl rfl hi9 (qaa qmA 7 rfl) ?_
  refine lv_topi (fun x2 ex2 => ?_)
  have hw := hw x2 ex2
  refine lv_isub hx hb (qaa qmA 8 rfl) ?_
  refine va_mabs hx hb (by rw [hml]; exact hl.1.symm) hown (hts _ qZx) (hts _ qVp) (hts _ qYU) (hts _ qUO) (nbq rfl) (nbq rfl) (nbq rfl) (nbq rfl) (qaa qmA 9 rfl) ?_
  refine lv_topi (fun x3 ex3 => ?_)
  have hw := hw x3 ex3
  refine lv_aload_n hx hb (qaa qmA 10 rfl) rfl (lv_at hl 0 rfl) ?_
  refine va_get (D := (dC, dI)) (ci := 2) (v := .ref jhj) (C := RX2) (T := TX2) (N := 12) hx hb hts qKI hown hK hP 0 rfl rfl 1 (by decide) (hts _ q2C) (fun _ h9 => h9) rfl (qaa qmA 11 rfl) ?_
  refine lv_iload_n hx hb (qaa qmA 12 rfl) rfl (lv_at hl 1 rfl) ?_
  obtain ⟨hi9, hw⟩ := hw
  refine va_iald hx hb hK hP 2 1 rfl rfl hi9 (qaa qmA 13 rfl) ?_
  refine lv_topi (fun x4 ex4 => ?_)
  have hw := hw x4 ex4
  refine lv_aload_n hx hb (qaa qmA 14 rfl) rfl (lv_at hl 0 rfl) ?_
  refine va_get (D := (dC, dI)) (ci := 2) (v := .ref jhj) (C := RX2) (T := TX2) (N := 12) hx hb hts qKI hown hK hP 0 rfl rfl 1 (by decide) (hts _ q2C) (fun _ h9 => h9) rfl (qaa qmA 15 rfl) ?_
  refine lv_iload_n hx hb (qaa qAI 0 rfl) rfl (lv_at hl 2 rfl) ?_
  obtain ⟨hi9, hw⟩ := hw
  refine va_iald hx hb hK hP 2 1 rfl rfl hi9 (qaa qAI 1 rfl) ?_
  refine lv_topi (fun x5 ex5 => ?_)
  have hw := hw x5 ex5
  refine lv_isub hx hb (qaa qAI 2 rfl) ?_
  refine va_mabs hx hb (by rw [hml]; exact hl.1.symm) hown (hts _ qZx) (hts _ qVp) (hts _ qYU) (hts _ qUO) (nbq rfl) (nbq rfl) (nbq rfl) (nbq rfl) (qaa qAI 3 rfl) ?_
  refine lv_topi (fun x6 ex6 => ?_)
  have hw := hw x6 ex6
  refine lv_iadd hx hb (qaa qAI 4 rfl) ?_
  exact ((W.iret (v := (x3 + x6)) hx hb hr (fun t ht hW => ⟨⟨(x3 + x6), (), rfl, hw, by rw [ht]; exact hP, va_K.moved hW.alike hK, hD⟩, hS.F ht⟩) hS.2.2 (qaa qAI 5 rfl)))
theorem qanm : ∀ w ∈ u_ws RX1 TX1 4, w ∈ wsX1_seatedIn := uiM qwK qWg (by decide +kernel)
theorem qamd : ∀ w ∈ u_ws RX2 TX2 12, w ∈ wsX1_seatedIn := uiM qwK qLp (by decide +kernel)
theorem qaeN : (.fieldLink RX1 24 "MarchHares$Days" "down" "LMarchHares$Down;" : Cond) ∈ wsX1_seatedIn := qwK 322 (by decide +kernel)
theorem qagY : (.fieldLink RX1 32 "MarchHares$Down" "hares" "I" : Cond) ∈ wsX1_seatedIn := qwK 324 (by decide +kernel)
set_option maxHeartbeats 4000000 in
set_option maxRecDepth 100000 in
theorem qKa {p : Program} {l : Launch} {e : Env} {s : State} {m : MethodId} {args : Array Value} {below : List Frame} {meth : Method} {c : Code} {A : Nat → Prop} (dC : Nat → ClassId) (dI : Nat → Nat → Nat) (cyB cyI cyJ cyP : ClassId) (a0 jfB jch : Nat) (jcD jhx jhr jhs jgk jgl jgm jgz jfV jgn jgO jfW jiB : Value) (jc6 : Int32) (jdE : NI) (Q : Int32 → Prop) (K4 : Int32 → Int32 → Int32 → Prop) (hK4 : ∀ (H : Heap) (locs : List Loc) (ls : Array Slot) (l1 l2 l3 : Int32), va_P (dC, dI) vwCl (qvO a0 jch jcD jfB jhx jfB jhr jhs jgk jgl jgm jgz jfV jgn jgO jc6 jfW jiB jch cyI jdE) H → va_D A (qvO a0 jch jcD jfB jhx jfB jhr jhs jgk jgl jgm jgz jfV jgn jgO jc6 jfW jiB jch cyI jdE) → va_S A s.heap H locs → lv_has ls 4 [(0, .ref a0), (1, .int l1), (2, .int l2), (3, .int l3)] → K4 l1 l2 l3 → W p l e (headSpec wsX1_seatedIn ({ frames := 1, cells := 0, slots := 0, locals := 21 })).room s m args below meth c H locs 0 0 (MQ below (va_Qi (fun (r : Int32) (_ : Unit) => Q r ) (cB (dC, dI) (kT cyB cyI cyJ cyP) A (fun u : Unit => ((qvO a0 jch jcD jfB jhx jfB jhr jhs jgk jgl jgm jgz jfV jgn jgO jc6 jfW jiB jch cyI jdE) : va_W))) A) args s 0 0 A) (F0 m 4 ls [])) (C0 : cfx p s m args meth c cX1_seatedIn (some .int) wsX1_seatedIn RX1 4 A (dC, dI) (kT cyB cyI cyJ cyP)) : ∀ (H : Heap) (locs : List Loc) (ls : Array Slot) (l1 l2 l3 : Int32), va_P (dC, dI) vwCl (qvO a0 jch jcD jfB jhx jfB jhr jhs jgk jgl jgm jgz jfV jgn jgO jc6 jfW jiB jch cyI jdE) H → va_D A (qvO a0 jch jcD jfB jhx jfB jhr jhs jgk jgl jgm jgz jfV jgn jgO jc6 jfW jiB jch cyI jdE) → va_S A s.heap H locs → lv_has ls 4 [(0, .ref a0), (1, .int l1), (2, .int l2), (3, .int l3)] → qDh jc6 jdE Q K4 l1 l2 l3 → W p l e (headSpec wsX1_seatedIn ({ frames := 1, cells := 0, slots := 0, locals := 21 })).room s m args below meth c H locs 0 0 (MQ below (va_Qi (fun (r : Int32) (_ : Unit) => Q r ) (cB (dC, dI) (kT cyB cyI cyJ cyP) A (fun u : Unit => ((qvO a0 jch jcD jfB jhx jfB jhr jhs jgk jgl jgm jgz jfV jgn jgO jc6 jfW jiB jch cyI jdE) : va_W))) A) args s 0 0 A) (F0 m 38 ls []) := by
  obtain ⟨hx, hb, hr, hts, hown, hlocks, hml, hA, hK, hNw⟩ := id C0
  intro H locs ls l1 l2 l3 hP hD hS hl hw
  obtain ⟨x7, ex7⟩ : ∃ y : Int32, y = l3 + 1 := ⟨_, rfl⟩
  have hw := hw x7 ex7
  refine lv_iinc (v := x7) (lv' := [(3, .int x7), (0, .ref a0), (1, .int l1), (2, .int l2)]) hx hb (qaa qkN 8 rfl) hl (k := 3) rfl (by rw [ex7]; rfl) (by decide) rfl (fun ls hl => ?_)
  refine lv_goto (tgt := 4) hx hb (qaa qkN 9 rfl) (by decide) ?_
  exact hK4 _ _ _ l1 l2 x7 hP hD hS (lv_sub hl [1, 2, 3, 0] rfl) hw
set_option maxHeartbeats 4000000 in
set_option maxRecDepth 100000 in
theorem qauO {p : Program} {l : Launch} {e : Env} {s : State} {m : MethodId} {args : Array Value} {below : List Frame} {meth : Method} {c : Code} {A : Nat → Prop} (dC : Nat → ClassId) (dI : Nat → Nat → Nat) (cyB cyI cyJ cyP : ClassId) (a0 jfB jch : Nat) (jcD jhx jhr jhs jgk jgl jgm jgz jfV jgn jgO jfW jiB : Value) (jc6 : Int32) (jdE : NI) (Q : Int32 → Prop) (C0 : cfx p s m args meth c cX1_seatedIn (some .int) wsX1_seatedIn RX1 4 A (dC, dI) (kT cyB cyI cyJ cyP)) : ∀ (n : Nat) (H : Heap) (locs : List Loc) (ls : Array Slot) (l1 l2 l3 : Int32), va_P (dC, dI) vwCl (qvO a0 jch jcD jfB jhx jfB jhr jhs jgk jgl jgm jgz jfV jgn jgO jc6 jfW jiB jch cyI jdE) H → va_D A (qvO a0 jch jcD jfB jhx jfB jhr jhs jgk jgl jgm jgz jfV jgn jgO jc6 jfW jiB jch cyI jdE) → va_S A s.heap H locs → lv_has ls 4 [(0, .ref a0), (1, .int l1), (2, .int l2), (3, .int l3)] → qn9 jc6 jdE Q n l1 l2 l3 → W p l e (headSpec wsX1_seatedIn ({ frames := 1, cells := 0, slots := 0, locals := 21 })).room s m args below meth c H locs 0 0 (MQ below (va_Qi (fun (r : Int32) (_ : Unit) => Q r ) (cB (dC, dI) (kT cyB cyI cyJ cyP) A (fun u : Unit => ((qvO a0 jch jcD jfB jhx jfB jhr jhs jgk jgl jgm jgz jfV jgn jgO jc6 jfW jiB jch cyI jdE) : va_W))) A) args s 0 0 A) (F0 m 4 ls []) := by
  obtain ⟨hx, hb, hr, hts, hown, hlocks, hml, hA, hK, hNw⟩ := id C0
  intro n
  induction n with
  | zero => intro H locs ls l1 l2 l3 hP hD hS hl hw; exact False.elim hw
  | succ n ih =>
    intro H locs ls l1 l2 l3 hP hD hS hl hw
    refine lv_iload_n hx hb (qaa qga 4 rfl) rfl (lv_at hl 3 rfl) ?_
    refine lv_aload_n hx hb (qaa qga 5 rfl) rfl (lv_at hl 0 rfl) ?_
    refine va_get (D := (dC, dI)) (ci := 1) (v := .ref jfB) (C := RX1) (T := TX1) (N := 4) hx hb hts qanm hown hK hP 0 rfl rfl 2 (by decide) (hts _ qaeN) (fun _ h9 => h9) rfl (qaa qga 6 rfl) ?_
    refine va_get (D := (dC, dI)) (ci := 2) (v := .int jc6) (C := RX2) (T := TX2) (N := 12) hx hb hts qamd hown hK hP 1 rfl rfl 9 (by decide) (hts _ qagY) (fun _ h9 => h9) rfl (qaa qga 7 rfl) ?_
    refine lv_icmp_ge (tgt := 44) hx hb (qaa qga 8 rfl) (by decide) (fun c1 => ?_) (fun c1 => ?_)
    · have hw := hw.1 c1
      refine lv_iload_n hx hb (qaa qkN 10 rfl) rfl (lv_at hl 2 rfl) ?_
      exact ((W.iret (v := l2) hx hb hr (fun t ht hW => ⟨⟨l2, (), rfl, hw, by rw [ht]; exact hP, va_K.moved hW.alike hK, hD⟩, hS.F ht⟩) hS.2.2 (qaa qkN 11 rfl)))
    · have hw := hw.2 c1
      refine lv_aload_n hx hb (qaa qga 9 rfl) rfl (lv_at hl 0 rfl) ?_
      refine lv_iload_n hx hb (qaa qga 10 rfl) rfl (lv_at hl 3 rfl) ?_
      obtain ⟨hCc, hPc, hDc, hFc⟩ := qac (ws' := (qSB a0 jch jcD jfB jhx jch cyI jdE)) hP hD hS hA [0, 2] (by decide +kernel) rfl
      refine va_calli (va_runV (As := [.int l3]) (rest := []) ⟨hx, hb, hml, hown, hts⟩ (qia l dC dI cyB cyI cyJ cyP a0 jch H.size (jcD) (.ref jfB) (jhx) jdE l3 hw) (cwV 1 hts gX1_seatedIn_X1_isCaught rfl rfl rfl (by decide +kernel) ⟨nbq rfl, nbq rfl⟩) ⟨qab, va_recv (q := (RX1, TX1, 4)) hK hPc (ci := 1) (q0 := 0) rfl rfl, qae hPc hK hDc hNw⟩ rfl rfl hl.1 rfl (lv_room (nbq rfl)) (qaa qga 11 rfl) ⟨nbq rfl, nbq rfl⟩) hS (fun q _ h => hFc q h) hFc (fun r2 u t H1 locs ht hvm hw hB hz1 hk1 hS => ?_)
      obtain ⟨hP1, hK1, hD1⟩ := hB
      rw [ht] at hP1
      obtain ⟨hP, hD⟩ := qad (wr := (qa9L jfB jhr jhs jgk jgl jgm jgz jfV jgn jgO jc6 jfW jiB)) (w1 := (qSB a0 jch jcD jfB jhx jch cyI jdE)) (wn := (qvO a0 jch jcD jfB jhx jfB jhr jhs jgk jgl jgm jgz jfV jgn jgO jc6 jfW jiB jch cyI jdE)) hP hD [0, 2] [1] [1, 0, 2] hCc rfl (by decide +kernel) (by decide +kernel) (by decide +kernel) rfl hk1 hFc hP1 hD1
      generalize H1 = H at hP hS ⊢
      refine lv_if_ne (tgt := 38) hx hb (qaa qga 12 rfl) (by decide) (fun c3 => ?_) (fun c3 => ?_)
      · have hw := hw.1 c3
        exact qKa dC dI cyB cyI cyJ cyP a0 jfB jch jcD jhx jhr jhs jgk jgl jgm jgz jfV jgn jgO jfW jiB jc6 jdE Q (qn9 jc6 jdE Q n) ih C0 _ _ _ l1 l2 l3 hP hD hS (lv_sub hl [0, 1, 2, 3] rfl) hw
      · have hw := hw.2 c3
        refine lv_aload_n hx hb (qaa qga 13 rfl) rfl (lv_at hl 0 rfl) ?_
        refine lv_iload_n hx hb (qaa qga 14 rfl) rfl (lv_at hl 3 rfl) ?_
        obtain ⟨hCc, hPc, hDc, hFc⟩ := qac (ws' := (qSB a0 jch jcD jfB jhx jch cyI jdE)) hP hD hS hA [0, 2] (by decide +kernel) rfl
        refine va_calli (va_runV (As := [.int l3]) (rest := []) ⟨hx, hb, hml, hown, hts⟩ (qvw l dC dI cyB cyI cyJ cyP a0 jch H.size (jcD) (.ref jfB) (jhx) jdE l3 hw) (cwV 1 hts gX1_seatedIn_X1_sits rfl rfl rfl (by decide +kernel) ⟨nbq rfl, nbq rfl⟩) ⟨qab, va_recv (q := (RX1, TX1, 4)) hK hPc (ci := 1) (q0 := 0) rfl rfl, qae hPc hK hDc hNw⟩ rfl rfl hl.1 rfl (lv_room (nbq rfl)) (qaa qga 15 rfl) ⟨nbq rfl, nbq rfl⟩) hS (fun q _ h => hFc q h) hFc (fun r4 u t H1 locs ht hvm hw hB hz1 hk1 hS => ?_)
        obtain ⟨hP1, hK1, hD1⟩ := hB
        rw [ht] at hP1
        obtain ⟨hP, hD⟩ := qad (wr := (qa9L jfB jhr jhs jgk jgl jgm jgz jfV jgn jgO jc6 jfW jiB)) (w1 := (qSB a0 jch jcD jfB jhx jch cyI jdE)) (wn := (qvO a0 jch jcD jfB jhx jfB jhr jhs jgk jgl jgm jgz jfV jgn jgO jc6 jfW jiB jch cyI jdE)) hP hD [0, 2] [1] [1, 0, 2] hCc rfl (by decide +kernel) (by decide +kernel) (by decide +kernel) rfl hk1 hFc hP1 hD1
        generalize H1 = H at hP hS ⊢
        refine lv_iload_n hx hb (qaa qkN 0 rfl) rfl (lv_at hl 1 rfl) ?_
        refine lv_icmp_ne (tgt := 38) hx hb (qaa qkN 1 rfl) (by decide) (fun c5 => ?_) (fun c5 => ?_)
        · have hw := hw.1 c5
          exact qKa dC dI cyB cyI cyJ cyP a0 jfB jch jcD jhx jhr jhs jgk jgl jgm jgz jfV jgn jgO jfW jiB jc6 jdE Q (qn9 jc6 jdE Q n) ih C0 _ _ _ l1 l2 l3 hP hD hS (lv_sub hl [0, 1, 2, 3] rfl) hw
        · have hw := hw.2 c5
          refine lv_iload_n hx hb (qaa qkN 2 rfl) rfl (lv_at hl 2 rfl) ?_
          refine lv_iconst (v := 1) hx hb (qaa qkN 3 rfl) (by decide) ?_
          refine lv_iload_n hx hb (qaa qkN 4 rfl) rfl (lv_at hl 3 rfl) ?_
          refine lv_ishl hx hb (qaa qkN 5 rfl) ?_
          refine lv_ior hx hb (qaa qkN 6 rfl) ?_
          refine lv_topi (fun x6 ex6 => ?_)
          have hw := hw x6 ex6
          refine lv_istore_n (lv' := [(2, .int x6), (0, .ref a0), (1, .int l1), (3, .int l3)]) hx hb (qaa qkN 7 rfl) rfl hl (by decide) rfl (fun ls hl => ?_)
          exact qKa dC dI cyB cyI cyJ cyP a0 jfB jch jcD jhx jhr jhs jgk jgl jgm jgz jfV jgn jgO jfW jiB jc6 jdE Q (qn9 jc6 jdE Q n) ih C0 _ _ _ l1 x6 l3 hP hD hS (lv_sub hl [1, 2, 0, 3] rfl) hw
set_option maxHeartbeats 4000000 in
set_option maxRecDepth 100000 in
theorem qTq (l : Launch) (dC : Nat → ClassId) (dI : Nat → Nat → Nat) (cyB cyI cyJ cyP : ClassId) (a0 jfB jch sz : Nat) (jcD jhx jhr jhs jgk jgl jgm jgz jfV jgn jgO jfW jiB : Value) (jc6 : Int32) (jdE : NI) (p1 : Int32) {Q : Int32 → Prop} (hw : qAt jc6 jdE p1 Q) : Met l yX1_seatedIn wsX1_seatedIn ({ frames := 1, cells := 0, slots := 0, locals := 21 }) (va_Pc [.ref a0, .int p1] (cPc (dC, dI) (kT cyB cyI cyJ cyP) (qvO a0 jch jcD jfB jhx jfB jhr jhs jgk jgl jgm jgz jfV jgn jgO jc6 jfW jiB jch cyI jdE) sz)) (va_Qi (fun (r : Int32) (_ : Unit) => Q r ) (cB (dC, dI) (kT cyB cyI cyJ cyP) (va_A (qvO a0 jch jcD jfB jhx jfB jhr jhs jgk jgl jgm jgz jfV jgn jgO jc6 jfW jiB jch cyI jdE) sz) (fun u : Unit => ((qvO a0 jch jcD jfB jhx jfB jhr jhs jgk jgl jgm jgz jfV jgn jgO jc6 jfW jiB jch cyI jdE) : va_W))) (va_A (qvO a0 jch jcD jfB jhx jfB jhr jhs jgk jgl jgm jgz jfV jgn jgO jc6 jfW jiB jch cyI jdE) sz)) 0 0 (va_A (qvO a0 jch jcD jfB jhx jfB jhr jhs jgk jgl jgm jgz jfV jgn jgO jc6 jfW jiB jch cyI jdE) sz) := by
  refine Met.ofW (cc := cX1_seatedIn) (maxL := 4) (ret := (some .int)) (by decide) rfl ?_
  intro p e s m args below meth c s₁ B hml hv
  obtain ⟨rfl, hsz, hP, hK, hD0, hNw⟩ := hv
  have hx := B.exec
  have hb := B.bytes
  have hr := B.returns
  have hts := atoms_spec (ws := wsX1_seatedIn) B.pre
  have hown : s.vm.findClass RX1 = some m.cls := findClass_of_methodNamed B.named
  have hlocks := B.notSynchronized
  subst hsz
  have hD := hD0.self (sz := s.heap.size)
  generalize hAe : va_A (qvO a0 jch jcD jfB jhx jfB jhr jhs jgk jgl jgm jgz jfV jgn jgO jc6 jfW jiB jch cyI jdE) s.heap.size = A at hD ⊢
  have hA : ∀ q : Nat, s.heap.size ≤ q → A q := fun q h => by rw [← hAe]; exact Or.inr h
  have hS : va_S A s.heap s.heap [] := va_S.rf
  have hP : va_P (dC, dI) vwCl (qvO a0 jch jcD jfB jhx jfB jhr jhs jgk jgl jgm jgz jfV jgn jgO jc6 jfW jiB jch cyI jdE) s.heap := hP
  have hl := lv_entry ([.ref a0, .int p1]) (n := 4) (nbq rfl)
  rw [lg_entry_eq]
  generalize (lg_sl ([.ref a0, .int p1]) ++ List.replicate (4 - (lg_sl ([.ref a0, .int p1])).length) Slot.unset).toArray = ls at hl ⊢
  have hl : lv_has ls 4 [(0, .ref a0), (1, .int p1)] := hl
  have C0 : cfx p s m _ meth c cX1_seatedIn (some .int) wsX1_seatedIn RX1 4 A (dC, dI) (kT cyB cyI cyJ cyP) := ⟨hx, hb, hr, hts, hown, hlocks, hml, hA, hK, hNw⟩
  clear hAe
  obtain ⟨H, hH⟩ : ∃ H, H = s.heap := ⟨_, rfl⟩
  rw [← hH] at hP ⊢
  have hS : va_S A s.heap H [] := by rw [hH]; exact va_S.rf
  have hS := hS
  refine lv_iconst (v := 0) hx hb (qaa qga 0 rfl) (by decide) ?_
  refine lv_istore_n (lv' := [(2, .int 0), (0, .ref a0), (1, .int p1)]) hx hb (qaa qga 1 rfl) rfl hl (by decide) rfl (fun ls hl => ?_)
  refine lv_iconst (v := 0) hx hb (qaa qga 2 rfl) (by decide) ?_
  refine lv_istore_n (lv' := [(3, .int 0), (2, .int 0), (0, .ref a0), (1, .int p1)]) hx hb (qaa qga 3 rfl) rfl hl (by decide) rfl (fun ls hl => ?_)
  obtain ⟨n9, hw⟩ := hw
  exact qauO dC dI cyB cyI cyJ cyP a0 jfB jch jcD jhx jhr jhs jgk jgl jgm jgz jfV jgn jgO jfW jiB jc6 jdE Q C0 n9 _ _ _ p1 0 0 hP hD hS (lv_sub hl [2, 3, 1, 0] rfl) hw
theorem qaOh : ∀ w ∈ u_ws RX1 TX1 4, w ∈ wsX1_owed := uiM qVY qWg (by decide +kernel)
theorem qaNk : ∀ w ∈ u_ws RX2 TX2 12, w ∈ wsX1_owed := uiM qVY qLp (by decide +kernel)
theorem qaH6 : (.fieldLink RX1 24 "MarchHares$Days" "down" "LMarchHares$Down;" : Cond) ∈ wsX1_owed := qVY 322 (by decide +kernel)
theorem qaF0 : (.fieldLink RX1 32 "MarchHares$Down" "hares" "I" : Cond) ∈ wsX1_owed := qVY 324 (by decide +kernel)
set_option maxHeartbeats 4000000 in
set_option maxRecDepth 100000 in
theorem qaU3 {p : Program} {l : Launch} {e : Env} {s : State} {m : MethodId} {args : Array Value} {below : List Frame} {meth : Method} {c : Code} {A : Nat → Prop} (dC : Nat → ClassId) (dI : Nat → Nat → Nat) (cyB cyI cyJ cyP : ClassId) (a0 jfB jch : Nat) (jcD jhx jhr jhs jgk jgl jgm jgz jfV jgn jgO jfW jiB : Value) (jc6 : Int32) (jdE : NI) (Q : Int32 → Prop) (C0 : cfx p s m args meth c cX1_owed (some .int) wsX1_owed RX1 4 A (dC, dI) (kT cyB cyI cyJ cyP)) : ∀ (n : Nat) (H : Heap) (locs : List Loc) (ls : Array Slot) (l1 l2 l3 : Int32), va_P (dC, dI) vwCl (qvO a0 jch jcD jfB jhx jfB jhr jhs jgk jgl jgm jgz jfV jgn jgO jc6 jfW jiB jch cyI jdE) H → va_D A (qvO a0 jch jcD jfB jhx jfB jhr jhs jgk jgl jgm jgz jfV jgn jgO jc6 jfW jiB jch cyI jdE) → va_S A s.heap H locs → lv_has ls 4 [(0, .ref a0), (1, .int l1), (2, .int l2), (3, .int l3)] → qLQ jc6 jdE Q n l1 l2 l3 → W p l e (headSpec wsX1_owed ({ frames := 1, cells := 0, slots := 0, locals := 22 })).room s m args below meth c H locs 0 0 (MQ below (va_Qi (fun (r : Int32) (_ : Unit) => Q r ) (cB (dC, dI) (kT cyB cyI cyJ cyP) A (fun u : Unit => ((qvO a0 jch jcD jfB jhx jfB jhr jhs jgk jgl jgm jgz jfV jgn jgO jc6 jfW jiB jch cyI jdE) : va_W))) A) args s 0 0 A) (F0 m 4 ls []) := by
  obtain ⟨hx, hb, hr, hts, hown, hlocks, hml, hA, hK, hNw⟩ := id C0
  intro n
  induction n with
  | zero => intro H locs ls l1 l2 l3 hP hD hS hl hw; exact False.elim hw
  | succ n ih =>
    intro H locs ls l1 l2 l3 hP hD hS hl hw
    refine lv_iload_n hx hb (qaa qok 4 rfl) rfl (lv_at hl 3 rfl) ?_
    refine lv_aload_n hx hb (qaa qok 5 rfl) rfl (lv_at hl 0 rfl) ?_
    refine va_get (D := (dC, dI)) (ci := 1) (v := .ref jfB) (C := RX1) (T := TX1) (N := 4) hx hb hts qaOh hown hK hP 0 rfl rfl 2 (by decide) (hts _ qaH6) (fun _ h9 => h9) rfl (qaa qok 6 rfl) ?_
    refine va_get (D := (dC, dI)) (ci := 2) (v := .int jc6) (C := RX2) (T := TX2) (N := 12) hx hb hts qaNk hown hK hP 1 rfl rfl 9 (by decide) (hts _ qaF0) (fun _ h9 => h9) rfl (qaa qok 7 rfl) ?_
    refine lv_icmp_ge (tgt := 30) hx hb (qaa qok 8 rfl) (by decide) (fun c1 => ?_) (fun c1 => ?_)
    · have hw := hw.1 c1
      refine lv_iload_n hx hb (qaa qOd 2 rfl) rfl (lv_at hl 2 rfl) ?_
      exact ((W.iret (v := l2) hx hb hr (fun t ht hW => ⟨⟨l2, (), rfl, hw, by rw [ht]; exact hP, va_K.moved hW.alike hK, hD⟩, hS.F ht⟩) hS.2.2 (qaa qOd 3 rfl)))
    · have hw := hw.2 c1
      refine lv_iload_n hx hb (qaa qok 9 rfl) rfl (lv_at hl 2 rfl) ?_
      refine lv_aload_n hx hb (qaa qok 10 rfl) rfl (lv_at hl 0 rfl) ?_
      refine lv_iload_n hx hb (qaa qok 11 rfl) rfl (lv_at hl 3 rfl) ?_
      refine lv_iload_n hx hb (qaa qok 12 rfl) rfl (lv_at hl 1 rfl) ?_
      obtain ⟨hCc, hPc, hDc, hFc⟩ := qac (ws' := (qSB a0 jch jcD jfB jhx jch cyI jdE)) hP hD hS hA [0, 2] (by decide +kernel) rfl
      refine va_calli (va_runV (As := [.int l3, .int l1]) (rest := [.int l2]) ⟨hx, hb, hml, hown, hts⟩ (qGD l dC dI cyB cyI cyJ cyP a0 jch H.size (jcD) (.ref jfB) (jhx) jdE l3 l1 hw) (cwV 2 hts gX1_owed_X1_owesTo rfl rfl rfl (by decide +kernel) ⟨nbq rfl, nbq rfl⟩) ⟨qab, va_recv (q := (RX1, TX1, 4)) hK hPc (ci := 1) (q0 := 0) rfl rfl, qae hPc hK hDc hNw⟩ rfl rfl hl.1 rfl (lv_room (nbq rfl)) (qaa qok 13 rfl) ⟨nbq rfl, nbq rfl⟩) hS (fun q _ h => hFc q h) hFc (fun r2 u t H1 locs ht hvm hw hB hz1 hk1 hS => ?_)
      obtain ⟨hP1, hK1, hD1⟩ := hB
      rw [ht] at hP1
      obtain ⟨hP, hD⟩ := qad (wr := (qa9L jfB jhr jhs jgk jgl jgm jgz jfV jgn jgO jc6 jfW jiB)) (w1 := (qSB a0 jch jcD jfB jhx jch cyI jdE)) (wn := (qvO a0 jch jcD jfB jhx jfB jhr jhs jgk jgl jgm jgz jfV jgn jgO jc6 jfW jiB jch cyI jdE)) hP hD [0, 2] [1] [1, 0, 2] hCc rfl (by decide +kernel) (by decide +kernel) (by decide +kernel) rfl hk1 hFc hP1 hD1
      generalize H1 = H at hP hS ⊢
      refine lv_iadd hx hb (qaa qok 14 rfl) ?_
      refine lv_topi (fun x3 ex3 => ?_)
      have hw := hw x3 ex3
      refine lv_istore_n (lv' := [(2, .int x3), (0, .ref a0), (1, .int l1), (3, .int l3)]) hx hb (qaa qok 15 rfl) rfl hl (by decide) rfl (fun ls hl => ?_)
      obtain ⟨x4, ex4⟩ : ∃ y : Int32, y = l3 + 1 := ⟨_, rfl⟩
      have hw := hw x4 ex4
      refine lv_iinc (v := x4) (lv' := [(3, .int x4), (2, .int x3), (0, .ref a0), (1, .int l1)]) hx hb (qaa qOd 0 rfl) hl (k := 3) rfl (by rw [ex4]; rfl) (by decide) rfl (fun ls hl => ?_)
      refine lv_goto (tgt := 4) hx hb (qaa qOd 1 rfl) (by decide) ?_
      exact ih _ _ _ l1 x3 x4 hP hD hS (lv_sub hl [2, 3, 1, 0] rfl) hw
set_option maxHeartbeats 4000000 in
set_option maxRecDepth 100000 in
theorem qaj8 (l : Launch) (dC : Nat → ClassId) (dI : Nat → Nat → Nat) (cyB cyI cyJ cyP : ClassId) (a0 jfB jch sz : Nat) (jcD jhx jhr jhs jgk jgl jgm jgz jfV jgn jgO jfW jiB : Value) (jc6 : Int32) (jdE : NI) (p1 : Int32) {Q : Int32 → Prop} (hw : qOF jc6 jdE p1 Q) : Met l yX1_owed wsX1_owed ({ frames := 1, cells := 0, slots := 0, locals := 22 }) (va_Pc [.ref a0, .int p1] (cPc (dC, dI) (kT cyB cyI cyJ cyP) (qvO a0 jch jcD jfB jhx jfB jhr jhs jgk jgl jgm jgz jfV jgn jgO jc6 jfW jiB jch cyI jdE) sz)) (va_Qi (fun (r : Int32) (_ : Unit) => Q r ) (cB (dC, dI) (kT cyB cyI cyJ cyP) (va_A (qvO a0 jch jcD jfB jhx jfB jhr jhs jgk jgl jgm jgz jfV jgn jgO jc6 jfW jiB jch cyI jdE) sz) (fun u : Unit => ((qvO a0 jch jcD jfB jhx jfB jhr jhs jgk jgl jgm jgz jfV jgn jgO jc6 jfW jiB jch cyI jdE) : va_W))) (va_A (qvO a0 jch jcD jfB jhx jfB jhr jhs jgk jgl jgm jgz jfV jgn jgO jc6 jfW jiB jch cyI jdE) sz)) 0 0 (va_A (qvO a0 jch jcD jfB jhx jfB jhr jhs jgk jgl jgm jgz jfV jgn jgO jc6 jfW jiB jch cyI jdE) sz) := by
  refine Met.ofW (cc := cX1_owed) (maxL := 4) (ret := (some .int)) (by decide) rfl ?_
  intro p e s m args below meth c s₁ B hml hv
  obtain ⟨rfl, hsz, hP, hK, hD0, hNw⟩ := hv
  have hx := B.exec
  have hb := B.bytes
  have hr := B.returns
  have hts := atoms_spec (ws := wsX1_owed) B.pre
  have hown : s.vm.findClass RX1 = some m.cls := findClass_of_methodNamed B.named
  have hlocks := B.notSynchronized
  subst hsz
  have hD := hD0.self (sz := s.heap.size)
  generalize hAe : va_A (qvO a0 jch jcD jfB jhx jfB jhr jhs jgk jgl jgm jgz jfV jgn jgO jc6 jfW jiB jch cyI jdE) s.heap.size = A at hD ⊢
  have hA : ∀ q : Nat, s.heap.size ≤ q → A q := fun q h => by rw [← hAe]; exact Or.inr h
  have hS : va_S A s.heap s.heap [] := va_S.rf
  have hP : va_P (dC, dI) vwCl (qvO a0 jch jcD jfB jhx jfB jhr jhs jgk jgl jgm jgz jfV jgn jgO jc6 jfW jiB jch cyI jdE) s.heap := hP
  have hl := lv_entry ([.ref a0, .int p1]) (n := 4) (nbq rfl)
  rw [lg_entry_eq]
  generalize (lg_sl ([.ref a0, .int p1]) ++ List.replicate (4 - (lg_sl ([.ref a0, .int p1])).length) Slot.unset).toArray = ls at hl ⊢
  have hl : lv_has ls 4 [(0, .ref a0), (1, .int p1)] := hl
  have C0 : cfx p s m _ meth c cX1_owed (some .int) wsX1_owed RX1 4 A (dC, dI) (kT cyB cyI cyJ cyP) := ⟨hx, hb, hr, hts, hown, hlocks, hml, hA, hK, hNw⟩
  clear hAe
  obtain ⟨H, hH⟩ : ∃ H, H = s.heap := ⟨_, rfl⟩
  rw [← hH] at hP ⊢
  have hS : va_S A s.heap H [] := by rw [hH]; exact va_S.rf
  have hS := hS
  refine lv_iconst (v := 0) hx hb (qaa qok 0 rfl) (by decide) ?_
  refine lv_istore_n (lv' := [(2, .int 0), (0, .ref a0), (1, .int p1)]) hx hb (qaa qok 1 rfl) rfl hl (by decide) rfl (fun ls hl => ?_)
  refine lv_iconst (v := 0) hx hb (qaa qok 2 rfl) (by decide) ?_
  refine lv_istore_n (lv' := [(3, .int 0), (2, .int 0), (0, .ref a0), (1, .int p1)]) hx hb (qaa qok 3 rfl) rfl hl (by decide) rfl (fun ls hl => ?_)
  obtain ⟨n9, hw⟩ := hw
  exact qaU3 dC dI cyB cyI cyJ cyP a0 jfB jch jcD jhx jhr jhs jgk jgl jgm jgz jfV jgn jgO jfW jiB jc6 jdE Q C0 n9 _ _ _ p1 0 0 hP hD hS (lv_sub hl [2, 3, 1, 0] rfl) hw
theorem qyo : ∀ w ∈ u_ws RX4 TX4 5, w ∈ wsX4_setFacts := uiM qae2 euX4 (by decide +kernel)
theorem qwL : (.fieldLink RX4 21 "MarchHares$Law" "facts" "[I" : Cond) ∈ wsX4_setFacts := qae2 203 (by decide +kernel)
set_option maxHeartbeats 4000000 in
set_option maxRecDepth 100000 in
theorem q8k (l : Launch) (dC : Nat → ClassId) (dI : Nat → Nat → Nat) (cyB cyI cyJ cyP : ClassId) (a0 jbu sz : Nat) (jni jn6 jhW jjf : Value) (jb1 : NI) (p1 p2 p3 p4 p5 : Int32) {Q : NI → Prop} (hw : qEg jb1 p1 p2 p3 p4 p5 Q) : Met l yX4_setFacts wsX4_setFacts ({ frames := 0, cells := 0, slots := 0, locals := 0 }) (va_Pc [.ref a0, .int p1, .int p2, .int p3, .int p4, .int p5] (cPc (dC, dI) (kT cyB cyI cyJ cyP) (qwh a0 jni jn6 jhW jbu jjf jbu cyI jb1) sz)) (va_Qv (fun (u : NI) => Q u) (cB (dC, dI) (kT cyB cyI cyJ cyP) (va_A (qwh a0 jni jn6 jhW jbu jjf jbu cyI jb1) sz) (fun u : NI => ((qwh a0 jni jn6 jhW jbu jjf jbu cyI u) : va_W))) (va_A (qwh a0 jni jn6 jhW jbu jjf jbu cyI jb1) sz)) 0 0 (va_A (qwh a0 jni jn6 jhW jbu jjf jbu cyI jb1) sz) := by
  refine Met.ofW (cc := cX4_setFacts) (maxL := 6) (ret := none) (by decide) rfl ?_
  intro p e s m args below meth c s₁ B hml hv
  obtain ⟨rfl, hsz, hP, hK, hD0, hNw⟩ := hv
  have hx := B.exec
  have hb := B.bytes
  have hr := B.returns
  have hts := atoms_spec (ws := wsX4_setFacts) B.pre
  have hown : s.vm.findClass RX4 = some m.cls := findClass_of_methodNamed B.named
  have hlocks := B.notSynchronized
  subst hsz
  have hD := hD0.self (sz := s.heap.size)
  generalize hAe : va_A (qwh a0 jni jn6 jhW jbu jjf jbu cyI jb1) s.heap.size = A at hD ⊢
  have hA : ∀ q : Nat, s.heap.size ≤ q → A q := fun q h => by rw [← hAe]; exact Or.inr h
  have hS : va_S A s.heap s.heap [] := va_S.rf
  have hP : va_P (dC, dI) vwCl (qwh a0 jni jn6 jhW jbu jjf jbu cyI jb1) s.heap := hP
  have hl := lv_entry ([.ref a0, .int p1, .int p2, .int p3, .int p4, .int p5]) (n := 6) (nbq rfl)
  rw [lg_entry_eq]
  generalize (lg_sl ([.ref a0, .int p1, .int p2, .int p3, .int p4, .int p5]) ++ List.replicate (6 - (lg_sl ([.ref a0, .int p1, .int p2, .int p3, .int p4, .int p5])).length) Slot.unset).toArray = ls at hl ⊢
  have hl : lv_has ls 6 [(0, .ref a0), (1, .int p1), (2, .int p2), (3, .int p3), (4, .int p4), (5, .int p5)] := hl
  have C0 : cfx p s m _ meth c cX4_setFacts none wsX4_setFacts RX4 6 A (dC, dI) (kT cyB cyI cyJ cyP) := ⟨hx, hb, hr, hts, hown, hlocks, hml, hA, hK, hNw⟩
  clear hAe
  obtain ⟨H, hH⟩ : ∃ H, H = s.heap := ⟨_, rfl⟩
  rw [← hH] at hP ⊢
  have hS : va_S A s.heap H [] := by rw [hH]; exact va_S.rf
  have hS := hS
  refine lv_aload_n hx hb (qaa qfi 0 rfl) rfl (lv_at hl 0 rfl) ?_
  refine va_get (D := (dC, dI)) (ci := 4) (v := .ref jbu) (C := RX4) (T := TX4) (N := 5) hx hb hts qyo hown hK hP 0 rfl rfl 3 (by decide) (hts _ qwL) (fun _ h9 => h9) rfl (qaa qfi 1 rfl) ?_
  refine lv_iconst (v := 0) hx hb (qaa qfi 2 rfl) (by decide) ?_
  refine lv_iload_n hx hb (qaa qfi 3 rfl) rfl (lv_at hl 1 rfl) ?_
  refine va_iast hx hb hK hP hD hS 1 1 rfl rfl (vin (by decide)) (qaa qfi 4 rfl) (fun H locs hP hD hS => ?_)
  obtain ⟨f1, ef1⟩ : ∃ y : NI, y = upd jb1 (0 : Int32).toNatClampNeg p1 := ⟨_, rfl⟩
  have hw := hw f1 ef1
  have hP : va_P (dC, dI) vwCl (qwh a0 jni jn6 jhW jbu jjf jbu cyI f1) H := by rw [ef1]; exact hP
  have hD : va_D A (qwh a0 jni jn6 jhW jbu jjf jbu cyI f1) := by rw [ef1]; exact hD
  refine lv_aload_n hx hb (qaa qfi 5 rfl) rfl (lv_at hl 0 rfl) ?_
  refine va_get (D := (dC, dI)) (ci := 4) (v := .ref jbu) (C := RX4) (T := TX4) (N := 5) hx hb hts qyo hown hK hP 0 rfl rfl 3 (by decide) (hts _ qwL) (fun _ h9 => h9) rfl (qaa qfi 6 rfl) ?_
  refine lv_iconst (v := 1) hx hb (qaa qfi 7 rfl) (by decide) ?_
  refine lv_iload_n hx hb (qaa qfi 8 rfl) rfl (lv_at hl 2 rfl) ?_
  refine va_iast hx hb hK hP hD hS 1 1 rfl rfl (vin (by decide)) (qaa qfi 9 rfl) (fun H locs hP hD hS => ?_)
  obtain ⟨f2, ef2⟩ : ∃ y : NI, y = upd f1 (1 : Int32).toNatClampNeg p2 := ⟨_, rfl⟩
  have hw := hw f2 ef2
  have hP : va_P (dC, dI) vwCl (qwh a0 jni jn6 jhW jbu jjf jbu cyI f2) H := by rw [ef2]; exact hP
  have hD : va_D A (qwh a0 jni jn6 jhW jbu jjf jbu cyI f2) := by rw [ef2]; exact hD
  refine lv_aload_n hx hb (qaa qfi 10 rfl) rfl (lv_at hl 0 rfl) ?_
  refine va_get (D := (dC, dI)) (ci := 4) (v := .ref jbu) (C := RX4) (T := TX4) (N := 5) hx hb hts qyo hown hK hP 0 rfl rfl 3 (by decide) (hts _ qwL) (fun _ h9 => h9) rfl (qaa qfi 11 rfl) ?_
  refine lv_iconst (v := 2) hx hb (qaa qfi 12 rfl) (by decide) ?_
  refine lv_iload_n hx hb (qaa qfi 13 rfl) rfl (lv_at hl 3 rfl) ?_
  refine va_iast hx hb hK hP hD hS 1 1 rfl rfl (vin (by decide)) (qaa qfi 14 rfl) (fun H locs hP hD hS => ?_)
  obtain ⟨f3, ef3⟩ : ∃ y : NI, y = upd f2 (2 : Int32).toNatClampNeg p3 := ⟨_, rfl⟩
  have hw := hw f3 ef3
  have hP : va_P (dC, dI) vwCl (qwh a0 jni jn6 jhW jbu jjf jbu cyI f3) H := by rw [ef3]; exact hP
  have hD : va_D A (qwh a0 jni jn6 jhW jbu jjf jbu cyI f3) := by rw [ef3]; exact hD
  refine lv_aload_n hx hb (qaa qfi 15 rfl) rfl (lv_at hl 0 rfl) ?_
  refine va_get (D := (dC, dI)) (ci := 4) (v := .ref jbu) (C := RX4) (T := TX4) (N := 5) hx hb hts qyo hown hK hP 0 rfl rfl 3 (by decide) (hts _ qwL) (fun _ h9 => h9) rfl (qaa qoh 0 rfl) ?_
  refine lv_iconst (v := 3) hx hb (qaa qoh 1 rfl) (by decide) ?_
  refine lv_iload hx hb (qaa qoh 2 rfl) (lv_at hl 4 rfl) ?_
  refine va_iast hx hb hK hP hD hS 1 1 rfl rfl (vin (by decide)) (qaa qoh 3 rfl) (fun H locs hP hD hS => ?_)
  obtain ⟨f4, ef4⟩ : ∃ y : NI, y = upd f3 (3 : Int32).toNatClampNeg p4 := ⟨_, rfl⟩
  have hw := hw f4 ef4
  have hP : va_P (dC, dI) vwCl (qwh a0 jni jn6 jhW jbu jjf jbu cyI f4) H := by rw [ef4]; exact hP
  have hD : va_D A (qwh a0 jni jn6 jhW jbu jjf jbu cyI f4) := by rw [ef4]; exact hD
  refine lv_aload_n hx hb (qaa qoh 4 rfl) rfl (lv_at hl 0 rfl) ?_
  refine va_get (D := (dC, dI)) (ci := 4) (v := .ref jbu) (C := RX4) (T := TX4) (N := 5) hx hb hts qyo hown hK hP 0 rfl rfl 3 (by decide) (hts _ qwL) (fun _ h9 => h9) rfl (qaa qoh 5 rfl) ?_
  refine lv_iconst (v := 4) hx hb (qaa qoh 6 rfl) (by decide) ?_
  refine lv_iload hx hb (qaa qoh 7 rfl) (lv_at hl 5 rfl) ?_
  refine va_iast hx hb hK hP hD hS 1 1 rfl rfl (vin (by decide)) (qaa qoh 8 rfl) (fun H locs hP hD hS => ?_)
  obtain ⟨f5, ef5⟩ : ∃ y : NI, y = upd f4 (4 : Int32).toNatClampNeg p5 := ⟨_, rfl⟩
  have hw := hw f5 ef5
  have hP : va_P (dC, dI) vwCl (qwh a0 jni jn6 jhW jbu jjf jbu cyI f5) H := by rw [ef5]; exact hP
  have hD : va_D A (qwh a0 jni jn6 jhW jbu jjf jbu cyI f5) := by rw [ef5]; exact hD
  exact ((W.vret hx hb hr (fun t ht hW => ⟨⟨(f5), rfl, hw, by rw [ht]; exact hP, va_K.moved hW.alike hK, hD⟩, hS.F ht⟩) hS.2.2 (qaa qoh 9 rfl)))
theorem qaHB : ∀ w ∈ u_ws RX1 TX1 4, w ∈ wsX1_leaps := uiM qaLm qWg (by decide +kernel)
theorem qaDd : (.fieldLink RX1 13 "MarchHares$Days" "row" "[I" : Cond) ∈ wsX1_leaps := qaLm 276 (by decide +kernel)
set_option maxHeartbeats 4000000 in
set_option maxRecDepth 100000 in
theorem qaB4 (l : Launch) (dC : Nat → ClassId) (dI : Nat → Nat → Nat) (cyB cyI cyJ cyP : ClassId) (a0 jch sz : Nat) (jcD ji6 jhx : Value) (jdE : NI) (p1 : Int32) {Q : Int32 → Prop} (hw : qOP jdE p1 Q) : Met l yX1_leaps wsX1_leaps ({ frames := 0, cells := 0, slots := 0, locals := 0 }) (va_Pc [.ref a0, .int p1] (cPc (dC, dI) (kT cyB cyI cyJ cyP) (qJC a0 jch jcD ji6 jhx jch cyI jdE) sz)) (va_Qi (fun (r : Int32) (_ : Unit) => Q r ) (cB (dC, dI) (kT cyB cyI cyJ cyP) (va_A (qJC a0 jch jcD ji6 jhx jch cyI jdE) sz) (fun u : Unit => ((qJC a0 jch jcD ji6 jhx jch cyI jdE) : va_W))) (va_A (qJC a0 jch jcD ji6 jhx jch cyI jdE) sz)) 0 0 (va_A (qJC a0 jch jcD ji6 jhx jch cyI jdE) sz) := by
  refine Met.ofW (cc := cX1_leaps) (maxL := 2) (ret := (some .int)) (by decide) rfl ?_
  intro p e s m args below meth c s₁ B hml hv
  obtain ⟨rfl, hsz, hP, hK, hD0, hNw⟩ := hv
  have hx := B.exec
  have hb := B.bytes
  have hr := B.returns
  have hts := atoms_spec (ws := wsX1_leaps) B.pre
  have hown : s.vm.findClass RX1 = some m.cls := findClass_of_methodNamed B.named
  have hlocks := B.notSynchronized
  subst hsz
  have hD := hD0.self (sz := s.heap.size)
  generalize hAe : va_A (qJC a0 jch jcD ji6 jhx jch cyI jdE) s.heap.size = A at hD ⊢
  have hA : ∀ q : Nat, s.heap.size ≤ q → A q := fun q h => by rw [← hAe]; exact Or.inr h
  have hS : va_S A s.heap s.heap [] := va_S.rf
  have hP : va_P (dC, dI) vwCl (qJC a0 jch jcD ji6 jhx jch cyI jdE) s.heap := hP
  have hl := lv_entry ([.ref a0, .int p1]) (n := 2) (nbq rfl)
  rw [lg_entry_eq]
  generalize (lg_sl ([.ref a0, .int p1]) ++ List.replicate (2 - (lg_sl ([.ref a0, .int p1])).length) Slot.unset).toArray = ls at hl ⊢
  have hl : lv_has ls 2 [(0, .ref a0), (1, .int p1)] := hl
  have C0 : cfx p s m _ meth c cX1_leaps (some .int) wsX1_leaps RX1 2 A (dC, dI) (kT cyB cyI cyJ cyP) := ⟨hx, hb, hr, hts, hown, hlocks, hml, hA, hK, hNw⟩
  clear hAe
  obtain ⟨H, hH⟩ : ∃ H, H = s.heap := ⟨_, rfl⟩
  rw [← hH] at hP ⊢
  have hS : va_S A s.heap H [] := by rw [hH]; exact va_S.rf
  have hS := hS
  refine lv_aload_n hx hb (qaa qzB 0 rfl) rfl (lv_at hl 0 rfl) ?_
  refine va_get (D := (dC, dI)) (ci := 1) (v := .ref jch) (C := RX1) (T := TX1) (N := 4) hx hb hts qaHB hown hK hP 0 rfl rfl 0 (by decide) (hts _ qaDd) (fun _ h9 => h9) rfl (qaa qzB 1 rfl) ?_
  refine lv_bipush (v := 22) hx hb (qaa qzB 2 rfl) (by decide) ?_
  refine lv_iload_n hx hb (qaa qzB 3 rfl) rfl (lv_at hl 1 rfl) ?_
  refine lv_iadd hx hb (qaa qzB 4 rfl) ?_
  refine lv_topi (fun x1 ex1 => ?_)
  have hw := hw x1 ex1
  obtain ⟨hi9, hw⟩ := hw
  refine va_iald hx hb hK hP 1 1 rfl rfl hi9 (qaa qzB 5 rfl) ?_
  refine lv_topi (fun x2 ex2 => ?_)
  have hw := hw x2 ex2
  exact ((W.iret (v := x2) hx hb hr (fun t ht hW => ⟨⟨x2, (), rfl, hw, by rw [ht]; exact hP, va_K.moved hW.alike hK, hD⟩, hS.F ht⟩) hS.2.2 (qaa qzB 6 rfl)))
theorem qJZ : ∀ w ∈ u_ws RX4 TX4 5, w ∈ wsX4_setTimes := uiM qafE euX4 (by decide +kernel)
theorem qHe : (.fieldLink RX4 21 "MarchHares$Law" "facts" "[I" : Cond) ∈ wsX4_setTimes := qafE 203 (by decide +kernel)
set_option maxHeartbeats 4000000 in
set_option maxRecDepth 100000 in
theorem q7m (l : Launch) (dC : Nat → ClassId) (dI : Nat → Nat → Nat) (cyB cyI cyJ cyP : ClassId) (a0 jbu sz : Nat) (jni jn6 jhW jjf : Value) (jb1 : NI) (p1 p2 p3 : Int32) {Q : NI → Prop} (hw : qDR jb1 p1 p2 p3 Q) : Met l yX4_setTimes wsX4_setTimes ({ frames := 0, cells := 0, slots := 0, locals := 0 }) (va_Pc [.ref a0, .int p1, .int p2, .int p3] (cPc (dC, dI) (kT cyB cyI cyJ cyP) (qwh a0 jni jn6 jhW jbu jjf jbu cyI jb1) sz)) (va_Qv (fun (u : NI) => Q u) (cB (dC, dI) (kT cyB cyI cyJ cyP) (va_A (qwh a0 jni jn6 jhW jbu jjf jbu cyI jb1) sz) (fun u : NI => ((qwh a0 jni jn6 jhW jbu jjf jbu cyI u) : va_W))) (va_A (qwh a0 jni jn6 jhW jbu jjf jbu cyI jb1) sz)) 0 0 (va_A (qwh a0 jni jn6 jhW jbu jjf jbu cyI jb1) sz) := by
  refine Met.ofW (cc := cX4_setTimes) (maxL := 4) (ret := none) (by decide) rfl ?_
  intro p e s m args below meth c s₁ B hml hv
  obtain ⟨rfl, hsz, hP, hK, hD0, hNw⟩ := hv
  have hx := B.exec
  have hb := B.bytes
  have hr := B.returns
  have hts := atoms_spec (ws := wsX4_setTimes) B.pre
  have hown : s.vm.findClass RX4 = some m.cls := findClass_of_methodNamed B.named
  have hlocks := B.notSynchronized
  subst hsz
  have hD := hD0.self (sz := s.heap.size)
  generalize hAe : va_A (qwh a0 jni jn6 jhW jbu jjf jbu cyI jb1) s.heap.size = A at hD ⊢
  have hA : ∀ q : Nat, s.heap.size ≤ q → A q := fun q h => by rw [← hAe]; exact Or.inr h
  have hS : va_S A s.heap s.heap [] := va_S.rf
  have hP : va_P (dC, dI) vwCl (qwh a0 jni jn6 jhW jbu jjf jbu cyI jb1) s.heap := hP
  have hl := lv_entry ([.ref a0, .int p1, .int p2, .int p3]) (n := 4) (nbq rfl)
  rw [lg_entry_eq]
  generalize (lg_sl ([.ref a0, .int p1, .int p2, .int p3]) ++ List.replicate (4 - (lg_sl ([.ref a0, .int p1, .int p2, .int p3])).length) Slot.unset).toArray = ls at hl ⊢
  have hl : lv_has ls 4 [(0, .ref a0), (1, .int p1), (2, .int p2), (3, .int p3)] := hl
  have C0 : cfx p s m _ meth c cX4_setTimes none wsX4_setTimes RX4 4 A (dC, dI) (kT cyB cyI cyJ cyP) := ⟨hx, hb, hr, hts, hown, hlocks, hml, hA, hK, hNw⟩
  clear hAe
  obtain ⟨H, hH⟩ : ∃ H, H = s.heap := ⟨_, rfl⟩
  rw [← hH] at hP ⊢
  have hS : va_S A s.heap H [] := by rw [hH]; exact va_S.rf
  have hS := hS
  refine lv_aload_n hx hb (qaa qfJ 0 rfl) rfl (lv_at hl 0 rfl) ?_
  refine va_get (D := (dC, dI)) (ci := 4) (v := .ref jbu) (C := RX4) (T := TX4) (N := 5) hx hb hts qJZ hown hK hP 0 rfl rfl 3 (by decide) (hts _ qHe) (fun _ h9 => h9) rfl (qaa qfJ 1 rfl) ?_
  refine lv_iconst (v := 5) hx hb (qaa qfJ 2 rfl) (by decide) ?_
  refine lv_iload_n hx hb (qaa qfJ 3 rfl) rfl (lv_at hl 1 rfl) ?_
  refine va_iast hx hb hK hP hD hS 1 1 rfl rfl (vin (by decide)) (qaa qfJ 4 rfl) (fun H locs hP hD hS => ?_)
  obtain ⟨f1, ef1⟩ : ∃ y : NI, y = upd jb1 (5 : Int32).toNatClampNeg p1 := ⟨_, rfl⟩
  have hw := hw f1 ef1
  have hP : va_P (dC, dI) vwCl (qwh a0 jni jn6 jhW jbu jjf jbu cyI f1) H := by rw [ef1]; exact hP
  have hD : va_D A (qwh a0 jni jn6 jhW jbu jjf jbu cyI f1) := by rw [ef1]; exact hD
  refine lv_aload_n hx hb (qaa qfJ 5 rfl) rfl (lv_at hl 0 rfl) ?_
  refine va_get (D := (dC, dI)) (ci := 4) (v := .ref jbu) (C := RX4) (T := TX4) (N := 5) hx hb hts qJZ hown hK hP 0 rfl rfl 3 (by decide) (hts _ qHe) (fun _ h9 => h9) rfl (qaa qfJ 6 rfl) ?_
  refine lv_bipush (v := 6) hx hb (qaa qfJ 7 rfl) (by decide) ?_
  refine lv_iload_n hx hb (qaa qfJ 8 rfl) rfl (lv_at hl 2 rfl) ?_
  refine va_iast hx hb hK hP hD hS 1 1 rfl rfl (vin (by decide)) (qaa qfJ 9 rfl) (fun H locs hP hD hS => ?_)
  obtain ⟨f2, ef2⟩ : ∃ y : NI, y = upd f1 (6 : Int32).toNatClampNeg p2 := ⟨_, rfl⟩
  have hw := hw f2 ef2
  have hP : va_P (dC, dI) vwCl (qwh a0 jni jn6 jhW jbu jjf jbu cyI f2) H := by rw [ef2]; exact hP
  have hD : va_D A (qwh a0 jni jn6 jhW jbu jjf jbu cyI f2) := by rw [ef2]; exact hD
  refine lv_aload_n hx hb (qaa qfJ 10 rfl) rfl (lv_at hl 0 rfl) ?_
  refine va_get (D := (dC, dI)) (ci := 4) (v := .ref jbu) (C := RX4) (T := TX4) (N := 5) hx hb hts qJZ hown hK hP 0 rfl rfl 3 (by decide) (hts _ qHe) (fun _ h9 => h9) rfl (qaa qfJ 11 rfl) ?_
  refine lv_bipush (v := 7) hx hb (qaa qfJ 12 rfl) (by decide) ?_
  refine lv_iload_n hx hb (qaa qfJ 13 rfl) rfl (lv_at hl 3 rfl) ?_
  refine va_iast hx hb hK hP hD hS 1 1 rfl rfl (vin (by decide)) (qaa qfJ 14 rfl) (fun H locs hP hD hS => ?_)
  obtain ⟨f3, ef3⟩ : ∃ y : NI, y = upd f2 (7 : Int32).toNatClampNeg p3 := ⟨_, rfl⟩
  have hw := hw f3 ef3
  have hP : va_P (dC, dI) vwCl (qwh a0 jni jn6 jhW jbu jjf jbu cyI f3) H := by rw [ef3]; exact hP
  have hD : va_D A (qwh a0 jni jn6 jhW jbu jjf jbu cyI f3) := by rw [ef3]; exact hD
  exact ((W.vret hx hb hr (fun t ht hW => ⟨⟨(f3), rfl, hw, by rw [ht]; exact hP, va_K.moved hW.alike hK, hD⟩, hS.F ht⟩) hS.2.2 (qaa qfJ 15 rfl)))
theorem qbf7 {x : Int32} (h : ¬ (x.toInt < 2 ∨ 7 < x.toInt)) : x = 2 ∨ x = 3 ∨ x = 4 ∨ x = 5 ∨ x = 6 ∨ x = 7 := by
  obtain ⟨j, hj, e⟩ := nI_of (x := x) (fun h0 => h (Or.inl (Int.lt_of_lt_of_le (by simpa using (Int32.lt_iff_toInt_lt.mp h0)) (by decide : (0 : Int) ≤ 2))))
  have h2 : (j : Int) ≤ 7 ∧ 2 ≤ (j : Int) := by
    have := nI_toInt hj
    rw [e] at h
    omega
  have h3 : j = 2 ∨ j = 3 ∨ j = 4 ∨ j = 5 ∨ j = 6 ∨ j = 7 := by omega
  rw [e]
  rcases h3 with rfl | rfl | rfl | rfl | rfl | rfl <;> decide
set_option maxHeartbeats 4000000 in
set_option maxRecDepth 100000 in
theorem qaVG (l : Launch) (dC : Nat → ClassId) (dI : Nat → Nat → Nat) (cyB cyI cyJ cyP : ClassId) (sz : Nat) (p0 p1 p2 : Int32) {Q : Int32 → Prop} (hw : qSd p0 p1 p2 Q) : Met l yX4_joined wsX4_joined ({ frames := 0, cells := 0, slots := 0, locals := 0 }) (va_Pc [.int p0, .int p1, .int p2] (cPc (dC, dI) (kT cyB cyI cyJ cyP) [] sz)) (va_Qi (fun (r : Int32) (_ : Unit) => Q r ) (cB (dC, dI) (kT cyB cyI cyJ cyP) (va_A [] sz) (fun u : Unit => ([] : va_W))) (va_A [] sz)) 0 0 (va_A [] sz) := by
  refine Met.ofW (cc := cX4_joined) (maxL := 3) (ret := (some .int)) (by decide) rfl ?_
  intro p e s m args below meth c s₁ B hml hv
  obtain ⟨rfl, hsz, hP, hK, hD0, hNw⟩ := hv
  have hx := B.exec
  have hb := B.bytes
  have hr := B.returns
  have hts := atoms_spec (ws := wsX4_joined) B.pre
  have hown : s.vm.findClass RX4 = some m.cls := findClass_of_methodNamed B.named
  have hlocks := B.notSynchronized
  subst hsz
  have hD := hD0.self (sz := s.heap.size)
  generalize hAe : va_A [] s.heap.size = A at hD ⊢
  have hA : ∀ q : Nat, s.heap.size ≤ q → A q := fun q h => by rw [← hAe]; exact Or.inr h
  have hS : va_S A s.heap s.heap [] := va_S.rf
  have hP : va_P (dC, dI) vwCl [] s.heap := hP
  have hl := lv_entry ([.int p0, .int p1, .int p2]) (n := 3) (nbq rfl)
  rw [lg_entry_eq]
  generalize (lg_sl ([.int p0, .int p1, .int p2]) ++ List.replicate (3 - (lg_sl ([.int p0, .int p1, .int p2])).length) Slot.unset).toArray = ls at hl ⊢
  have hl : lv_has ls 3 [(0, .int p0), (1, .int p1), (2, .int p2)] := hl
  have C0 : cfx p s m _ meth c cX4_joined (some .int) wsX4_joined RX4 3 A (dC, dI) (kT cyB cyI cyJ cyP) := ⟨hx, hb, hr, hts, hown, hlocks, hml, hA, hK, hNw⟩
  clear hAe
  obtain ⟨H, hH⟩ : ∃ H, H = s.heap := ⟨_, rfl⟩
  rw [← hH] at hP ⊢
  have hS : va_S A s.heap H [] := by rw [hH]; exact va_S.rf
  have hS := hS
  refine lv_iload_n hx hb (qaa qaG4 0 rfl) rfl (lv_at hl 0 rfl) ?_
  by_cases c1 : p0.toInt < 2 ∨ 7 < p0.toInt
  · have hw := hw.1 c1
    refine lv_tableOut (tgt := 87) hx hb dX4_joined_1 c1 (by decide) ?_
    refine lv_iload_n hx hb (qaa qeX 11 rfl) rfl (lv_at hl 1 rfl) ?_
    refine lv_iload_n hx hb (qaa qeX 12 rfl) rfl (lv_at hl 2 rfl) ?_
    refine lv_icmp_le (tgt := 96) hx hb (qaa qeX 13 rfl) (by decide) (fun c2 => ?_) (fun c2 => ?_)
    · have hw := hw.1 c2
      refine lv_iload_n hx hb (qaa qPW 0 rfl) rfl (lv_at hl 2 rfl) ?_
      exact ((W.iret (v := p2) hx hb hr (fun t ht hW => ⟨⟨p2, (), rfl, hw, by rw [ht]; exact hP, va_K.moved hW.alike hK, hD⟩, hS.F ht⟩) hS.2.2 (qaa qPW 1 rfl)))
    · have hw := hw.2 c2
      refine lv_iload_n hx hb (qaa qeX 14 rfl) rfl (lv_at hl 1 rfl) ?_
      refine lv_goto (tgt := 97) hx hb (qaa qeX 15 rfl) (by decide) ?_
      exact ((W.iret (v := p1) hx hb hr (fun t ht hW => ⟨⟨p1, (), rfl, hw, by rw [ht]; exact hP, va_K.moved hW.alike hK, hD⟩, hS.F ht⟩) hS.2.2 (qaa qPW 1 rfl)))
  · have hw := hw.2
    rcases qbf7 c1 with c1 | c1 | c1 | c1 | c1 | c1
    · have hw := hw.1 c1
      refine lv_tableIn (tgt := 40) (off := 39) hx hb dX4_joined_1 (by rw [c1]; decide) (by rw [c1]; decide) (by rw [c1]; decide) (by decide) ?_
      refine lv_iload_n hx hb (qaa qhn 0 rfl) rfl (lv_at hl 1 rfl) ?_
      refine lv_iload_n hx hb (qaa qhn 1 rfl) rfl (lv_at hl 2 rfl) ?_
      refine lv_iadd hx hb (qaa qhn 2 rfl) ?_
      exact ((W.iret (v := (p1 + p2)) hx hb hr (fun t ht hW => ⟨⟨(p1 + p2), (), rfl, hw, by rw [ht]; exact hP, va_K.moved hW.alike hK, hD⟩, hS.F ht⟩) hS.2.2 (qaa qhn 3 rfl)))
    · have hw := hw.2.1 c1
      refine lv_tableIn (tgt := 44) (off := 43) hx hb dX4_joined_1 (by rw [c1]; decide) (by rw [c1]; decide) (by rw [c1]; decide) (by decide) ?_
      refine lv_iload_n hx hb (qaa qhn 4 rfl) rfl (lv_at hl 1 rfl) ?_
      refine lv_iload_n hx hb (qaa qhn 5 rfl) rfl (lv_at hl 2 rfl) ?_
      refine lv_isub hx hb (qaa qhn 6 rfl) ?_
      exact ((W.iret (v := (p1 - p2)) hx hb hr (fun t ht hW => ⟨⟨(p1 - p2), (), rfl, hw, by rw [ht]; exact hP, va_K.moved hW.alike hK, hD⟩, hS.F ht⟩) hS.2.2 (qaa qhn 7 rfl)))
    · have hw := hw.2.2.1 c1
      refine lv_tableIn (tgt := 48) (off := 47) hx hb dX4_joined_1 (by rw [c1]; decide) (by rw [c1]; decide) (by rw [c1]; decide) (by decide) ?_
      refine lv_iload_n hx hb (qaa qhn 8 rfl) rfl (lv_at hl 1 rfl) ?_
      refine lv_iload_n hx hb (qaa qhn 9 rfl) rfl (lv_at hl 2 rfl) ?_
      refine lv_imul hx hb (qaa qhn 10 rfl) ?_
      exact ((W.iret (v := (p1 * p2)) hx hb hr (fun t ht hW => ⟨⟨(p1 * p2), (), rfl, hw, by rw [ht]; exact hP, va_K.moved hW.alike hK, hD⟩, hS.F ht⟩) hS.2.2 (qaa qhn 11 rfl)))
    · have hw := hw.2.2.2.1 c1
      refine lv_tableIn (tgt := 52) (off := 51) hx hb dX4_joined_1 (by rw [c1]; decide) (by rw [c1]; decide) (by rw [c1]; decide) (by decide) ?_
      refine lv_iload_n hx hb (qaa qhn 12 rfl) rfl (lv_at hl 2 rfl) ?_
      refine lv_if_ne (tgt := 60) hx hb (qaa qhn 13 rfl) (by decide) (fun c3 => ?_) (fun c3 => ?_)
      · have hw := hw.1 c3
        refine lv_iload_n hx hb (qaa qrY 0 rfl) rfl (lv_at hl 1 rfl) ?_
        refine lv_iload_n hx hb (qaa qrY 1 rfl) rfl (lv_at hl 2 rfl) ?_
        obtain ⟨hz9, hw⟩ := hw
        refine lv_idiv hx hb (qaa qrY 2 rfl) hz9 ?_
        refine lv_topi (fun x4 ex4 => ?_)
        have hw := hw x4 ex4
        exact ((W.iret (v := x4) hx hb hr (fun t ht hW => ⟨⟨x4, (), rfl, hw, by rw [ht]; exact hP, va_K.moved hW.alike hK, hD⟩, hS.F ht⟩) hS.2.2 (qaa qrY 3 rfl)))
      · have hw := hw.2 c3
        refine lv_iconst (v := 0) hx hb (qaa qhn 14 rfl) (by decide) ?_
        refine lv_goto (tgt := 63) hx hb (qaa qhn 15 rfl) (by decide) ?_
        exact ((W.iret (v := 0) hx hb hr (fun t ht hW => ⟨⟨0, (), rfl, hw, by rw [ht]; exact hP, va_K.moved hW.alike hK, hD⟩, hS.F ht⟩) hS.2.2 (qaa qrY 3 rfl)))
    · have hw := hw.2.2.2.2.1 c1
      refine lv_tableIn (tgt := 64) (off := 63) hx hb dX4_joined_1 (by rw [c1]; decide) (by rw [c1]; decide) (by rw [c1]; decide) (by decide) ?_
      refine lv_iload_n hx hb (qaa qrY 4 rfl) rfl (lv_at hl 2 rfl) ?_
      refine lv_if_ne (tgt := 72) hx hb (qaa qrY 5 rfl) (by decide) (fun c5 => ?_) (fun c5 => ?_)
      · have hw := hw.1 c5
        refine lv_iload_n hx hb (qaa qeX 0 rfl) rfl (lv_at hl 1 rfl) ?_
        refine lv_iload_n hx hb (qaa qeX 1 rfl) rfl (lv_at hl 2 rfl) ?_
        obtain ⟨hz9, hw⟩ := hw
        refine lv_irem hx hb (qaa qeX 2 rfl) hz9 ?_
        refine lv_topi (fun x6 ex6 => ?_)
        have hw := hw x6 ex6
        exact ((W.iret (v := x6) hx hb hr (fun t ht hW => ⟨⟨x6, (), rfl, hw, by rw [ht]; exact hP, va_K.moved hW.alike hK, hD⟩, hS.F ht⟩) hS.2.2 (qaa qeX 3 rfl)))
      · have hw := hw.2 c5
        refine lv_iconst (v := 0) hx hb (qaa qrY 6 rfl) (by decide) ?_
        refine lv_goto (tgt := 75) hx hb (qaa qrY 7 rfl) (by decide) ?_
        exact ((W.iret (v := 0) hx hb hr (fun t ht hW => ⟨⟨0, (), rfl, hw, by rw [ht]; exact hP, va_K.moved hW.alike hK, hD⟩, hS.F ht⟩) hS.2.2 (qaa qeX 3 rfl)))
    · have hw := hw.2.2.2.2.2 c1
      refine lv_tableIn (tgt := 76) (off := 75) hx hb dX4_joined_1 (by rw [c1]; decide) (by rw [c1]; decide) (by rw [c1]; decide) (by decide) ?_
      refine lv_iload_n hx hb (qaa qeX 4 rfl) rfl (lv_at hl 1 rfl) ?_
      refine lv_iload_n hx hb (qaa qeX 5 rfl) rfl (lv_at hl 2 rfl) ?_
      refine lv_icmp_ge (tgt := 85) hx hb (qaa qeX 6 rfl) (by decide) (fun c7 => ?_) (fun c7 => ?_)
      · have hw := hw.1 c7
        refine lv_iload_n hx hb (qaa qeX 9 rfl) rfl (lv_at hl 2 rfl) ?_
        exact ((W.iret (v := p2) hx hb hr (fun t ht hW => ⟨⟨p2, (), rfl, hw, by rw [ht]; exact hP, va_K.moved hW.alike hK, hD⟩, hS.F ht⟩) hS.2.2 (qaa qeX 10 rfl)))
      · have hw := hw.2 c7
        refine lv_iload_n hx hb (qaa qeX 7 rfl) rfl (lv_at hl 1 rfl) ?_
        refine lv_goto (tgt := 86) hx hb (qaa qeX 8 rfl) (by decide) ?_
        exact ((W.iret (v := p1) hx hb hr (fun t ht hW => ⟨⟨p1, (), rfl, hw, by rw [ht]; exact hP, va_K.moved hW.alike hK, hD⟩, hS.F ht⟩) hS.2.2 (qaa qeX 10 rfl)))
theorem qrM : ∀ w ∈ u_ws RX4 TX4 5, w ∈ wsX4_reach := uiM qsY euX4 (by decide +kernel)
theorem q0Y : (.fieldLink RX4 15 "MarchHares$Law" "values" "[I" : Cond) ∈ wsX4_reach := qsY 201 (by decide +kernel)
theorem qCn : (.fieldLink RX4 18 "MarchHares$Law" "pile" "[I" : Cond) ∈ wsX4_reach := qsY 202 (by decide +kernel)
theorem qavv : (.fieldLink RX4 21 "MarchHares$Law" "facts" "[I" : Cond) ∈ wsX4_reach := qsY 203 (by decide +kernel)
theorem qaCD : (.fieldLink RX4 27 "MarchHares$Law" "length" "I" : Cond) ∈ wsX4_reach := qsY 208 (by decide +kernel)
theorem qaGX : (.fieldLink RX4 9 "MarchHares$Law" "kinds" "[I" : Cond) ∈ wsX4_reach := qsY 200 (by decide +kernel)
theorem qZV : (.initialized "java/lang/Math" : Cond) ∈ wsX4_reach := qsY 651 (by decide +kernel)
theorem qatp : (.methodLink RX4 115 Lib.Math.min.name : Cond) ∈ wsX4_reach := qsY 1928 (by decide +kernel)
theorem qarl : (.methodLink RX4 120 Lib.Math.max.name : Cond) ∈ wsX4_reach := qsY 1929 (by decide +kernel)
theorem qai9 : (.code Lib.Math.max.name Lib.Math.max.code 2 (some .int) : Cond) ∈ wsX4_reach := qsY 1931 (by decide +kernel)
theorem qakA : (.code Lib.Math.min.name Lib.Math.min.code 2 (some .int) : Cond) ∈ wsX4_reach := qsY 652 (by decide +kernel)
theorem qakW : (.static Lib.Math.max.name : Cond) ∈ wsX4_reach := qsY 1930 (by decide +kernel)
theorem qakG : (.static Lib.Math.min.name : Cond) ∈ wsX4_reach := qsY 650 (by decide +kernel)
set_option maxHeartbeats 4000000 in
set_option maxRecDepth 100000 in
theorem qUp {p : Program} {l : Launch} {e : Env} {s : State} {m : MethodId} {args : Array Value} {below : List Frame} {meth : Method} {c : Code} {A : Nat → Prop} (dC : Nat → ClassId) (dI : Nat → Nat → Nat) (cyB cyI cyJ cyP : ClassId) (a0 jmH jbU jbu jcK : Nat) (jb7 : Int32) (jdC jfY jb1 : NI) (Q : Int32 → NI → Prop) (K4 : NI → Int32 → Int32 → Prop) (hK4 : ∀ (H : Heap) (locs : List Loc) (ls : Array Slot) (jnu : NI) (l1 l2 : Int32), va_P (dC, dI) vwCl (qnM a0 jbU jcK jmH jbu jb7 jmH cyI jnu jbU cyI jdC jcK cyI jfY jbu cyI jb1) H → va_D A (qnM a0 jbU jcK jmH jbu jb7 jmH cyI jnu jbU cyI jdC jcK cyI jfY jbu cyI jb1) → va_S A s.heap H locs → lv_has ls 4 [(0, .ref a0), (1, .int l1), (2, .int l2)] → K4 jnu l1 l2 → W p l e (headSpec wsX4_reach ({ frames := 1, cells := 0, slots := 0, locals := 32 })).room s m args below meth c H locs 0 0 (MQ below (va_Qi (fun (r : Int32) (u : NI) => Q r u) (cB (dC, dI) (kT cyB cyI cyJ cyP) A (fun u : NI => ((qnM a0 jbU jcK jmH jbu jb7 jmH cyI u jbU cyI jdC jcK cyI jfY jbu cyI jb1) : va_W))) A) args s 0 0 A) (F0 m 4 ls [])) (C0 : cfx p s m args meth c cX4_reach (some .int) wsX4_reach RX4 4 A (dC, dI) (kT cyB cyI cyJ cyP)) : ∀ (H : Heap) (locs : List Loc) (ls : Array Slot) (jnu : NI) (l1 l2 : Int32), va_P (dC, dI) vwCl (qnM a0 jbU jcK jmH jbu jb7 jmH cyI jnu jbU cyI jdC jcK cyI jfY jbu cyI jb1) H → va_D A (qnM a0 jbU jcK jmH jbu jb7 jmH cyI jnu jbU cyI jdC jcK cyI jfY jbu cyI jb1) → va_S A s.heap H locs → lv_has ls 4 [(0, .ref a0), (1, .int l1), (2, .int l2)] → qKw jb7 jdC jfY jb1 Q K4 jnu l1 l2 → W p l e (headSpec wsX4_reach ({ frames := 1, cells := 0, slots := 0, locals := 32 })).room s m args below meth c H locs 0 0 (MQ below (va_Qi (fun (r : Int32) (u : NI) => Q r u) (cB (dC, dI) (kT cyB cyI cyJ cyP) A (fun u : NI => ((qnM a0 jbU jcK jmH jbu jb7 jmH cyI u jbU cyI jdC jcK cyI jfY jbu cyI jb1) : va_W))) A) args s 0 0 A) (F0 m 98 ls []) := by
  obtain ⟨hx, hb, hr, hts, hown, hlocks, hml, hA, hK, hNw⟩ := id C0
  intro H locs ls jnu l1 l2 hP hD hS hl hw
  obtain ⟨x21, ex21⟩ : ∃ y : Int32, y = l2 + 1 := ⟨_, rfl⟩
  have hw := hw x21 ex21
  refine lv_iinc (v := x21) (lv' := [(2, .int x21), (0, .ref a0), (1, .int l1)]) hx hb (qaa qiE 12 rfl) hl (k := 2) rfl (by rw [ex21]; rfl) (by decide) rfl (fun ls hl => ?_)
  refine lv_goto (tgt := 4) hx hb (qaa qiE 13 rfl) (by decide) ?_
  exact hK4 _ _ _ jnu l1 x21 hP hD hS (lv_sub hl [1, 2, 0] rfl) hw
set_option maxHeartbeats 4000000 in
set_option maxRecDepth 100000 in
theorem q7S {p : Program} {l : Launch} {e : Env} {s : State} {m : MethodId} {args : Array Value} {below : List Frame} {meth : Method} {c : Code} {A : Nat → Prop} (dC : Nat → ClassId) (dI : Nat → Nat → Nat) (cyB cyI cyJ cyP : ClassId) (a0 jmH jbU jbu jcK : Nat) (jb7 : Int32) (jdC jfY jb1 : NI) (Q : Int32 → NI → Prop) (K4 : NI → Int32 → Int32 → Prop) (hK4 : ∀ (H : Heap) (locs : List Loc) (ls : Array Slot) (jnu : NI) (l1 l2 : Int32), va_P (dC, dI) vwCl (qnM a0 jbU jcK jmH jbu jb7 jmH cyI jnu jbU cyI jdC jcK cyI jfY jbu cyI jb1) H → va_D A (qnM a0 jbU jcK jmH jbu jb7 jmH cyI jnu jbU cyI jdC jcK cyI jfY jbu cyI jb1) → va_S A s.heap H locs → lv_has ls 4 [(0, .ref a0), (1, .int l1), (2, .int l2)] → K4 jnu l1 l2 → W p l e (headSpec wsX4_reach ({ frames := 1, cells := 0, slots := 0, locals := 32 })).room s m args below meth c H locs 0 0 (MQ below (va_Qi (fun (r : Int32) (u : NI) => Q r u) (cB (dC, dI) (kT cyB cyI cyJ cyP) A (fun u : NI => ((qnM a0 jbU jcK jmH jbu jb7 jmH cyI u jbU cyI jdC jcK cyI jfY jbu cyI jb1) : va_W))) A) args s 0 0 A) (F0 m 4 ls [])) (C0 : cfx p s m args meth c cX4_reach (some .int) wsX4_reach RX4 4 A (dC, dI) (kT cyB cyI cyJ cyP)) : ∀ (H : Heap) (locs : List Loc) (ls : Array Slot) (jnu : NI) (l1 l2 s1 s2 : Int32), va_P (dC, dI) vwCl (qnM a0 jbU jcK jmH jbu jb7 jmH cyI jnu jbU cyI jdC jcK cyI jfY jbu cyI jb1) H → va_D A (qnM a0 jbU jcK jmH jbu jb7 jmH cyI jnu jbU cyI jdC jcK cyI jfY jbu cyI jb1) → va_S A s.heap H locs → lv_has ls 4 [(0, .ref a0), (1, .int l1), (2, .int l2)] → qEj jb7 jdC jfY jb1 Q K4 jnu l1 l2 s1 s2 → W p l e (headSpec wsX4_reach ({ frames := 1, cells := 0, slots := 0, locals := 32 })).room s m args below meth c H locs 0 0 (MQ below (va_Qi (fun (r : Int32) (u : NI) => Q r u) (cB (dC, dI) (kT cyB cyI cyJ cyP) A (fun u : NI => ((qnM a0 jbU jcK jmH jbu jb7 jmH cyI u jbU cyI jdC jcK cyI jfY jbu cyI jb1) : va_W))) A) args s 0 0 A) (F0 m 57 ls [.int s2, .int s1, .ref jmH]) := by
  obtain ⟨hx, hb, hr, hts, hown, hlocks, hml, hA, hK, hNw⟩ := id C0
  intro H locs ls jnu l1 l2 s1 s2 hP hD hS hl hw
  obtain ⟨hi9, hw⟩ := hw
  refine va_iast hx hb hK hP hD hS 1 1 rfl rfl hi9 (qaa qiU 3 rfl) (fun H locs hP hD hS => ?_)
  obtain ⟨f22, ef22⟩ : ∃ y : NI, y = upd jnu s1.toNatClampNeg s2 := ⟨_, rfl⟩
  have hw := hw f22 ef22
  have hP : va_P (dC, dI) vwCl (qnM a0 jbU jcK jmH jbu jb7 jmH cyI f22 jbU cyI jdC jcK cyI jfY jbu cyI jb1) H := by rw [ef22]; exact hP
  have hD : va_D A (qnM a0 jbU jcK jmH jbu jb7 jmH cyI f22 jbU cyI jdC jcK cyI jfY jbu cyI jb1) := by rw [ef22]; exact hD
  obtain ⟨x23, ex23⟩ : ∃ y : Int32, y = l1 + 1 := ⟨_, rfl⟩
  have hw := hw x23 ex23
  refine lv_iinc (v := x23) (lv' := [(1, .int x23), (0, .ref a0), (2, .int l2)]) hx hb (qaa qiU 4 rfl) hl (k := 1) rfl (by rw [ex23]; rfl) (by decide) rfl (fun ls hl => ?_)
  refine lv_goto (tgt := 98) hx hb (qaa qiU 5 rfl) (by decide) ?_
  exact qUp dC dI cyB cyI cyJ cyP a0 jmH jbU jbu jcK jb7 jdC jfY jb1 Q K4 hK4 C0 _ _ _ f22 x23 l2 hP hD hS (lv_sub hl [1, 0, 2] rfl) hw
set_option maxHeartbeats 4000000 in
set_option maxRecDepth 100000 in
theorem q7L {p : Program} {l : Launch} {e : Env} {s : State} {m : MethodId} {args : Array Value} {below : List Frame} {meth : Method} {c : Code} {A : Nat → Prop} (dC : Nat → ClassId) (dI : Nat → Nat → Nat) (cyB cyI cyJ cyP : ClassId) (a0 jmH jbU jbu jcK : Nat) (jb7 : Int32) (jdC jfY jb1 : NI) (Q : Int32 → NI → Prop) (K4 : NI → Int32 → Int32 → Prop) (hK4 : ∀ (H : Heap) (locs : List Loc) (ls : Array Slot) (jnu : NI) (l1 l2 : Int32), va_P (dC, dI) vwCl (qnM a0 jbU jcK jmH jbu jb7 jmH cyI jnu jbU cyI jdC jcK cyI jfY jbu cyI jb1) H → va_D A (qnM a0 jbU jcK jmH jbu jb7 jmH cyI jnu jbU cyI jdC jcK cyI jfY jbu cyI jb1) → va_S A s.heap H locs → lv_has ls 4 [(0, .ref a0), (1, .int l1), (2, .int l2)] → K4 jnu l1 l2 → W p l e (headSpec wsX4_reach ({ frames := 1, cells := 0, slots := 0, locals := 32 })).room s m args below meth c H locs 0 0 (MQ below (va_Qi (fun (r : Int32) (u : NI) => Q r u) (cB (dC, dI) (kT cyB cyI cyJ cyP) A (fun u : NI => ((qnM a0 jbU jcK jmH jbu jb7 jmH cyI u jbU cyI jdC jcK cyI jfY jbu cyI jb1) : va_W))) A) args s 0 0 A) (F0 m 4 ls [])) (C0 : cfx p s m args meth c cX4_reach (some .int) wsX4_reach RX4 4 A (dC, dI) (kT cyB cyI cyJ cyP)) : ∀ (H : Heap) (locs : List Loc) (ls : Array Slot) (jnu : NI) (l1 l2 l3 : Int32), va_P (dC, dI) vwCl (qnM a0 jbU jcK jmH jbu jb7 jmH cyI jnu jbU cyI jdC jcK cyI jfY jbu cyI jb1) H → va_D A (qnM a0 jbU jcK jmH jbu jb7 jmH cyI jnu jbU cyI jdC jcK cyI jfY jbu cyI jb1) → va_S A s.heap H locs → lv_has ls 4 [(0, .ref a0), (1, .int l1), (2, .int l2), (3, .int l3)] → qKK jb7 jdC jfY jb1 Q K4 jnu l1 l2 l3 → W p l e (headSpec wsX4_reach ({ frames := 1, cells := 0, slots := 0, locals := 32 })).room s m args below meth c H locs 0 0 (MQ below (va_Qi (fun (r : Int32) (u : NI) => Q r u) (cB (dC, dI) (kT cyB cyI cyJ cyP) A (fun u : NI => ((qnM a0 jbU jcK jmH jbu jb7 jmH cyI u jbU cyI jdC jcK cyI jfY jbu cyI jb1) : va_W))) A) args s 0 0 A) (F0 m 28 ls []) := by
  obtain ⟨hx, hb, hr, hts, hown, hlocks, hml, hA, hK, hNw⟩ := id C0
  intro H locs ls jnu l1 l2 l3 hP hD hS hl hw
  refine lv_aload_n hx hb (qaa qiF 2 rfl) rfl (lv_at hl 0 rfl) ?_
  refine va_get (D := (dC, dI)) (ci := 4) (v := .ref jmH) (C := RX4) (T := TX4) (N := 5) hx hb hts qrM hown hK hP 0 rfl rfl 2 (by decide) (hts _ qCn) (fun _ h9 => h9) rfl (qaa qiF 3 rfl) ?_
  refine lv_iload_n hx hb (qaa qiF 4 rfl) rfl (lv_at hl 1 rfl) ?_
  refine lv_iload_n hx hb (qaa qiF 5 rfl) rfl (lv_at hl 3 rfl) ?_
  refine lv_if_ne (tgt := 46) hx hb (qaa qiF 6 rfl) (by decide) (fun c17 => ?_) (fun c17 => ?_)
  · have hw := hw.1 c17
    refine lv_aload_n hx hb (qaa qiF 12 rfl) rfl (lv_at hl 0 rfl) ?_
    refine va_get (D := (dC, dI)) (ci := 4) (v := .ref jbu) (C := RX4) (T := TX4) (N := 5) hx hb hts qrM hown hK hP 0 rfl rfl 3 (by decide) (hts _ qavv) (fun _ h9 => h9) rfl (qaa qiF 13 rfl) ?_
    refine lv_aload_n hx hb (qaa qiF 14 rfl) rfl (lv_at hl 0 rfl) ?_
    refine va_get (D := (dC, dI)) (ci := 4) (v := .ref jcK) (C := RX4) (T := TX4) (N := 5) hx hb hts qrM hown hK hP 0 rfl rfl 1 (by decide) (hts _ q0Y) (fun _ h9 => h9) rfl (qaa qiF 15 rfl) ?_
    refine lv_iload_n hx hb (qaa qiU 0 rfl) rfl (lv_at hl 2 rfl) ?_
    obtain ⟨hi9, hw⟩ := hw
    refine va_iald hx hb hK hP 3 1 rfl rfl hi9 (qaa qiU 1 rfl) ?_
    refine lv_topi (fun x18 ex18 => ?_)
    have hw := hw x18 ex18
    obtain ⟨hi9, hw⟩ := hw
    refine va_iald hx hb hK hP 4 1 rfl rfl hi9 (qaa qiU 2 rfl) ?_
    refine lv_topi (fun x19 ex19 => ?_)
    have hw := hw x19 ex19
    exact q7S dC dI cyB cyI cyJ cyP a0 jmH jbU jbu jcK jb7 jdC jfY jb1 Q K4 hK4 C0 _ _ _ jnu l1 l2 l1 x19 hP hD hS (lv_sub hl [0, 1, 2] rfl) hw
  · have hw := hw.2 c17
    refine lv_aload_n hx hb (qaa qiF 7 rfl) rfl (lv_at hl 0 rfl) ?_
    refine va_get (D := (dC, dI)) (ci := 4) (v := .ref jcK) (C := RX4) (T := TX4) (N := 5) hx hb hts qrM hown hK hP 0 rfl rfl 1 (by decide) (hts _ q0Y) (fun _ h9 => h9) rfl (qaa qiF 8 rfl) ?_
    refine lv_iload_n hx hb (qaa qiF 9 rfl) rfl (lv_at hl 2 rfl) ?_
    obtain ⟨hi9, hw⟩ := hw
    refine va_iald hx hb hK hP 3 1 rfl rfl hi9 (qaa qiF 10 rfl) ?_
    refine lv_topi (fun x20 ex20 => ?_)
    have hw := hw x20 ex20
    refine lv_goto (tgt := 57) hx hb (qaa qiF 11 rfl) (by decide) ?_
    exact q7S dC dI cyB cyI cyJ cyP a0 jmH jbU jbu jcK jb7 jdC jfY jb1 Q K4 hK4 C0 _ _ _ jnu l1 l2 l1 x20 hP hD hS (lv_sub hl [0, 1, 2] rfl) hw
set_option maxHeartbeats 4000000 in
set_option maxRecDepth 100000 in
theorem q0Q {p : Program} {l : Launch} {e : Env} {s : State} {m : MethodId} {args : Array Value} {below : List Frame} {meth : Method} {c : Code} {A : Nat → Prop} (dC : Nat → ClassId) (dI : Nat → Nat → Nat) (cyB cyI cyJ cyP : ClassId) (a0 jmH jbU jbu jcK : Nat) (jb7 : Int32) (jdC jfY jb1 : NI) (Q : Int32 → NI → Prop) (C0 : cfx p s m args meth c cX4_reach (some .int) wsX4_reach RX4 4 A (dC, dI) (kT cyB cyI cyJ cyP)) : ∀ (H : Heap) (locs : List Loc) (ls : Array Slot) (jnu : NI) (s0 : Int32), va_P (dC, dI) vwCl (qnM a0 jbU jcK jmH jbu jb7 jmH cyI jnu jbU cyI jdC jcK cyI jfY jbu cyI jb1) H → va_D A (qnM a0 jbU jcK jmH jbu jb7 jmH cyI jnu jbU cyI jdC jcK cyI jfY jbu cyI jb1) → va_S A s.heap H locs → lv_has ls 4 [] → qG6 jb7 jdC jfY jb1 Q jnu s0 → W p l e (headSpec wsX4_reach ({ frames := 1, cells := 0, slots := 0, locals := 32 })).room s m args below meth c H locs 0 0 (MQ below (va_Qi (fun (r : Int32) (u : NI) => Q r u) (cB (dC, dI) (kT cyB cyI cyJ cyP) A (fun u : NI => ((qnM a0 jbU jcK jmH jbu jb7 jmH cyI u jbU cyI jdC jcK cyI jfY jbu cyI jb1) : va_W))) A) args s 0 0 A) (F0 m 118 ls [.int s0]) := by
  obtain ⟨hx, hb, hr, hts, hown, hlocks, hml, hA, hK, hNw⟩ := id C0
  intro H locs ls jnu s0 hP hD hS hl hw
  refine lv_istore_n (lv' := [(2, .int s0)]) hx hb (qaa qnf 6 rfl) rfl hl (by decide) rfl (fun ls hl => ?_)
  refine lv_iconst (v := 0) hx hb (qaa qnf 7 rfl) (by decide) ?_
  refine lv_bipush (v := 60) hx hb (qaa qnf 8 rfl) (by decide) ?_
  refine lv_iload_n hx hb (qaa qnf 9 rfl) rfl (lv_at hl 0 rfl) ?_
  refine va_mmin hx hb (by rw [hml]; exact hl.1.symm) hown (hts _ qatp) (hts _ qakG) (hts _ qZV) (hts _ qakA) (nbq rfl) (nbq rfl) (nbq rfl) (nbq rfl) (qaa qnf 10 rfl) ?_
  refine lv_topi (fun x15 ex15 => ?_)
  have hw := hw x15 ex15
  refine va_mmax hx hb (by rw [hml]; exact hl.1.symm) hown (hts _ qarl) (hts _ qakW) (hts _ qZV) (hts _ qai9) (nbq rfl) (nbq rfl) (nbq rfl) (nbq rfl) (qaa qnf 11 rfl) ?_
  refine lv_topi (fun x16 ex16 => ?_)
  have hw := hw x16 ex16
  exact ((W.iret (v := x16) hx hb hr (fun t ht hW => ⟨⟨x16, (jnu), rfl, hw, by rw [ht]; exact hP, va_K.moved hW.alike hK, hD⟩, hS.F ht⟩) hS.2.2 (qaa qnf 12 rfl)))
set_option maxHeartbeats 4000000 in
set_option maxRecDepth 100000 in
theorem qaM5 {p : Program} {l : Launch} {e : Env} {s : State} {m : MethodId} {args : Array Value} {below : List Frame} {meth : Method} {c : Code} {A : Nat → Prop} (dC : Nat → ClassId) (dI : Nat → Nat → Nat) (cyB cyI cyJ cyP : ClassId) (a0 jmH jbU jbu jcK : Nat) (jb7 : Int32) (jdC jfY jb1 : NI) (Q : Int32 → NI → Prop) (C0 : cfx p s m args meth c cX4_reach (some .int) wsX4_reach RX4 4 A (dC, dI) (kT cyB cyI cyJ cyP)) : ∀ (n : Nat) (H : Heap) (locs : List Loc) (ls : Array Slot) (jnu : NI) (l1 l2 : Int32), va_P (dC, dI) vwCl (qnM a0 jbU jcK jmH jbu jb7 jmH cyI jnu jbU cyI jdC jcK cyI jfY jbu cyI jb1) H → va_D A (qnM a0 jbU jcK jmH jbu jb7 jmH cyI jnu jbU cyI jdC jcK cyI jfY jbu cyI jb1) → va_S A s.heap H locs → lv_has ls 4 [(0, .ref a0), (1, .int l1), (2, .int l2)] → qmW jb7 jdC jfY jb1 Q n jnu l1 l2 → W p l e (headSpec wsX4_reach ({ frames := 1, cells := 0, slots := 0, locals := 32 })).room s m args below meth c H locs 0 0 (MQ below (va_Qi (fun (r : Int32) (u : NI) => Q r u) (cB (dC, dI) (kT cyB cyI cyJ cyP) A (fun u : NI => ((qnM a0 jbU jcK jmH jbu jb7 jmH cyI u jbU cyI jdC jcK cyI jfY jbu cyI jb1) : va_W))) A) args s 0 0 A) (F0 m 4 ls []) := by
  obtain ⟨hx, hb, hr, hts, hown, hlocks, hml, hA, hK, hNw⟩ := id C0
  intro n
  induction n with
  | zero => intro H locs ls jnu l1 l2 hP hD hS hl hw; exact False.elim hw
  | succ n ih =>
    intro H locs ls jnu l1 l2 hP hD hS hl hw
    refine lv_iload_n hx hb (qaa qlq 4 rfl) rfl (lv_at hl 2 rfl) ?_
    refine lv_aload_n hx hb (qaa qlq 5 rfl) rfl (lv_at hl 0 rfl) ?_
    refine va_get (D := (dC, dI)) (ci := 4) (v := .int jb7) (C := RX4) (T := TX4) (N := 5) hx hb hts qrM hown hK hP 0 rfl rfl 4 (by decide) (hts _ qaCD) (fun _ h9 => h9) rfl (qaa qlq 6 rfl) ?_
    refine lv_icmp_ge (tgt := 104) hx hb (qaa qlq 7 rfl) (by decide) (fun c1 => ?_) (fun c1 => ?_)
    · have hw := hw.1 c1
      refine lv_iload_n hx hb (qaa qiE 14 rfl) rfl (lv_at hl 1 rfl) ?_
      refine lv_if_le (tgt := 117) hx hb (qaa qiE 15 rfl) (by decide) (fun c2 => ?_) (fun c2 => ?_)
      · have hw := hw.1 c2
        refine lv_iconst (v := 0) hx hb (qaa qnf 5 rfl) (by decide) ?_
        exact q0Q dC dI cyB cyI cyJ cyP a0 jmH jbU jbu jcK jb7 jdC jfY jb1 Q C0 _ _ _ jnu 0 hP hD hS (lv_sub hl [] rfl) hw
      · have hw := hw.2 c2
        refine lv_aload_n hx hb (qaa qnf 0 rfl) rfl (lv_at hl 0 rfl) ?_
        refine va_get (D := (dC, dI)) (ci := 4) (v := .ref jmH) (C := RX4) (T := TX4) (N := 5) hx hb hts qrM hown hK hP 0 rfl rfl 2 (by decide) (hts _ qCn) (fun _ h9 => h9) rfl (qaa qnf 1 rfl) ?_
        refine lv_iconst (v := 0) hx hb (qaa qnf 2 rfl) (by decide) ?_
        refine va_iald hx hb hK hP 1 1 rfl rfl (vin (by decide)) (qaa qnf 3 rfl) ?_
        refine lv_topi (fun x3 ex3 => ?_)
        have hw := hw x3 ex3
        refine lv_goto (tgt := 118) hx hb (qaa qnf 4 rfl) (by decide) ?_
        exact q0Q dC dI cyB cyI cyJ cyP a0 jmH jbU jbu jcK jb7 jdC jfY jb1 Q C0 _ _ _ jnu x3 hP hD hS (lv_sub hl [] rfl) hw
    · have hw := hw.2 c1
      refine lv_aload_n hx hb (qaa qlq 8 rfl) rfl (lv_at hl 0 rfl) ?_
      refine va_get (D := (dC, dI)) (ci := 4) (v := .ref jbU) (C := RX4) (T := TX4) (N := 5) hx hb hts qrM hown hK hP 0 rfl rfl 0 (by decide) (hts _ qaGX) (fun _ h9 => h9) rfl (qaa qlq 9 rfl) ?_
      refine lv_iload_n hx hb (qaa qlq 10 rfl) rfl (lv_at hl 2 rfl) ?_
      obtain ⟨hi9, hw⟩ := hw
      refine va_iald hx hb hK hP 2 1 rfl rfl hi9 (qaa qlq 11 rfl) ?_
      refine lv_topi (fun x4 ex4 => ?_)
      have hw := hw x4 ex4
      refine lv_istore_n (lv' := [(3, .int x4), (0, .ref a0), (1, .int l1), (2, .int l2)]) hx hb (qaa qlq 12 rfl) rfl hl (by decide) rfl (fun ls hl => ?_)
      refine lv_iload_n hx hb (qaa qlq 13 rfl) rfl (lv_at hl 0 rfl) ?_
      refine lv_if_eq (tgt := 28) hx hb (qaa qlq 14 rfl) (by decide) (fun c5 => ?_) (fun c5 => ?_)
      · have hw := hw.1 c5
        exact q7L dC dI cyB cyI cyJ cyP a0 jmH jbU jbu jcK jb7 jdC jfY jb1 Q (qmW jb7 jdC jfY jb1 Q n) ih C0 _ _ _ jnu l1 l2 x4 hP hD hS (lv_sub hl [1, 2, 3, 0] rfl) hw
      · have hw := hw.2 c5
        refine lv_iload_n hx hb (qaa qlq 15 rfl) rfl (lv_at hl 0 rfl) ?_
        refine lv_iconst (v := 1) hx hb (qaa qiF 0 rfl) (by decide) ?_
        refine lv_icmp_ne (tgt := 64) hx hb (qaa qiF 1 rfl) (by decide) (fun c6 => ?_) (fun c6 => ?_)
        · have hw := hw.1 c6
          refine lv_iload_n hx hb (qaa qiU 6 rfl) rfl (lv_at hl 2 rfl) ?_
          refine lv_iconst (v := 2) hx hb (qaa qiU 7 rfl) (by decide) ?_
          refine lv_icmp_lt (tgt := 98) hx hb (qaa qiU 8 rfl) (by decide) (fun c7 => ?_) (fun c7 => ?_)
          · have hw := hw.1 c7
            exact qUp dC dI cyB cyI cyJ cyP a0 jmH jbU jbu jcK jb7 jdC jfY jb1 Q (qmW jb7 jdC jfY jb1 Q n) ih C0 _ _ _ jnu l1 l2 hP hD hS (lv_sub hl [1, 2, 3] rfl) hw
          · have hw := hw.2 c7
            obtain ⟨x8, ex8⟩ : ∃ y : Int32, y = l1 + (-1) := ⟨_, rfl⟩
            have hw := hw x8 ex8
            refine lv_iinc (v := x8) (lv' := [(1, .int x8), (3, .int x4), (0, .ref a0), (2, .int l2)]) hx hb (qaa qiU 9 rfl) hl (k := 2) rfl (by rw [ex8]; rfl) (by decide) rfl (fun ls hl => ?_)
            refine lv_aload_n hx hb (qaa qiU 10 rfl) rfl (lv_at hl 2 rfl) ?_
            refine va_get (D := (dC, dI)) (ci := 4) (v := .ref jmH) (C := RX4) (T := TX4) (N := 5) hx hb hts qrM hown hK hP 0 rfl rfl 2 (by decide) (hts _ qCn) (fun _ h9 => h9) rfl (qaa qiU 11 rfl) ?_
            refine lv_iload_n hx hb (qaa qiU 12 rfl) rfl (lv_at hl 0 rfl) ?_
            refine lv_iconst (v := 1) hx hb (qaa qiU 13 rfl) (by decide) ?_
            refine lv_isub hx hb (qaa qiU 14 rfl) ?_
            refine lv_topi (fun x9 ex9 => ?_)
            have hw := hw x9 ex9
            refine lv_iload_n hx hb (qaa qiU 15 rfl) rfl (lv_at hl 1 rfl) ?_
            refine lv_aload_n hx hb (qaa qiE 0 rfl) rfl (lv_at hl 2 rfl) ?_
            refine va_get (D := (dC, dI)) (ci := 4) (v := .ref jmH) (C := RX4) (T := TX4) (N := 5) hx hb hts qrM hown hK hP 0 rfl rfl 2 (by decide) (hts _ qCn) (fun _ h9 => h9) rfl (qaa qiE 1 rfl) ?_
            refine lv_iload_n hx hb (qaa qiE 2 rfl) rfl (lv_at hl 0 rfl) ?_
            refine lv_iconst (v := 1) hx hb (qaa qiE 3 rfl) (by decide) ?_
            refine lv_isub hx hb (qaa qiE 4 rfl) ?_
            refine lv_topi (fun x10 ex10 => ?_)
            have hw := hw x10 ex10
            obtain ⟨hi9, hw⟩ := hw
            refine va_iald hx hb hK hP 1 1 rfl rfl hi9 (qaa qiE 5 rfl) ?_
            refine lv_topi (fun x11 ex11 => ?_)
            have hw := hw x11 ex11
            refine lv_aload_n hx hb (qaa qiE 6 rfl) rfl (lv_at hl 2 rfl) ?_
            refine va_get (D := (dC, dI)) (ci := 4) (v := .ref jmH) (C := RX4) (T := TX4) (N := 5) hx hb hts qrM hown hK hP 0 rfl rfl 2 (by decide) (hts _ qCn) (fun _ h9 => h9) rfl (qaa qiE 7 rfl) ?_
            refine lv_iload_n hx hb (qaa qiE 8 rfl) rfl (lv_at hl 0 rfl) ?_
            obtain ⟨hi9, hw⟩ := hw
            refine va_iald hx hb hK hP 1 1 rfl rfl hi9 (qaa qiE 9 rfl) ?_
            refine lv_topi (fun x12 ex12 => ?_)
            have hw := hw x12 ex12
            obtain ⟨hCc, hPc, hDc, hFc⟩ := qac (ws' := []) hP hD hS hA [] (by decide +kernel) rfl
            refine va_calli (va_runS (As := [.int x4, .int x11, .int x12]) (rest := [.int x9, .ref jmH]) ⟨hx, hb, hml, hown, hts⟩ (qaVG l dC dI cyB cyI cyJ cyP H.size x4 x11 x12 hw) (va_cwS 3 hts gX4_reach_X4_joined rfl rfl rfl (by decide +kernel) ⟨nbq rfl, nbq rfl⟩) ⟨qab, qae hPc hK hDc hNw⟩ rfl rfl hl.1 rfl (lv_room (nbq rfl)) (qaa qiE 10 rfl) ⟨nbq rfl, nbq rfl⟩) hS (fun q _ h => hFc q h) hFc (fun r13 u t H1 locs ht hvm hw hB hz1 hk1 hS => ?_)
            obtain ⟨hP1, hK1, hD1⟩ := hB
            rw [ht] at hP1
            obtain ⟨hP, hD⟩ := qah (wr := (qnM a0 jbU jcK jmH jbu jb7 jmH cyI jnu jbU cyI jdC jcK cyI jfY jbu cyI jb1)) (w1 := []) (wn := (qnM a0 jbU jcK jmH jbu jb7 jmH cyI jnu jbU cyI jdC jcK cyI jfY jbu cyI jb1)) hP hD [] [0, 1, 2, 3, 4] hCc rfl (by decide +kernel) (by decide +kernel) rfl hk1 hFc hP1 hD1
            generalize H1 = H at hP hS ⊢
            obtain ⟨hi9, hw⟩ := hw
            refine va_iast hx hb hK hP hD hS 1 1 rfl rfl hi9 (qaa qiE 11 rfl) (fun H locs hP hD hS => ?_)
            obtain ⟨f14, ef14⟩ : ∃ y : NI, y = upd jnu x9.toNatClampNeg r13 := ⟨_, rfl⟩
            have hw := hw f14 ef14
            have hP : va_P (dC, dI) vwCl (qnM a0 jbU jcK jmH jbu jb7 jmH cyI f14 jbU cyI jdC jcK cyI jfY jbu cyI jb1) H := by rw [ef14]; exact hP
            have hD : va_D A (qnM a0 jbU jcK jmH jbu jb7 jmH cyI f14 jbU cyI jdC jcK cyI jfY jbu cyI jb1) := by rw [ef14]; exact hD
            exact qUp dC dI cyB cyI cyJ cyP a0 jmH jbU jbu jcK jb7 jdC jfY jb1 Q (qmW jb7 jdC jfY jb1 Q n) ih C0 _ _ _ f14 x8 l2 hP hD hS (lv_sub hl [2, 0, 3] rfl) hw
        · have hw := hw.2 c6
          exact q7L dC dI cyB cyI cyJ cyP a0 jmH jbU jbu jcK jb7 jdC jfY jb1 Q (qmW jb7 jdC jfY jb1 Q n) ih C0 _ _ _ jnu l1 l2 x4 hP hD hS (lv_sub hl [1, 2, 3, 0] rfl) hw
set_option maxHeartbeats 4000000 in
set_option maxRecDepth 100000 in
theorem qavk (l : Launch) (dC : Nat → ClassId) (dI : Nat → Nat → Nat) (cyB cyI cyJ cyP : ClassId) (a0 jmH jbU jbu jcK sz : Nat) (jb7 : Int32) (jdC jfY jb1 jnu : NI) {Q : Int32 → NI → Prop} (hw : qPZ jb7 jdC jfY jb1 jnu Q) : Met l yX4_reach wsX4_reach ({ frames := 1, cells := 0, slots := 0, locals := 32 }) (va_Pc [.ref a0] (cPc (dC, dI) (kT cyB cyI cyJ cyP) (qnM a0 jbU jcK jmH jbu jb7 jmH cyI jnu jbU cyI jdC jcK cyI jfY jbu cyI jb1) sz)) (va_Qi (fun (r : Int32) (u : NI) => Q r u) (cB (dC, dI) (kT cyB cyI cyJ cyP) (va_A (qnM a0 jbU jcK jmH jbu jb7 jmH cyI jnu jbU cyI jdC jcK cyI jfY jbu cyI jb1) sz) (fun u : NI => ((qnM a0 jbU jcK jmH jbu jb7 jmH cyI u jbU cyI jdC jcK cyI jfY jbu cyI jb1) : va_W))) (va_A (qnM a0 jbU jcK jmH jbu jb7 jmH cyI jnu jbU cyI jdC jcK cyI jfY jbu cyI jb1) sz)) 0 0 (va_A (qnM a0 jbU jcK jmH jbu jb7 jmH cyI jnu jbU cyI jdC jcK cyI jfY jbu cyI jb1) sz) := by
  refine Met.ofW (cc := cX4_reach) (maxL := 4) (ret := (some .int)) (by decide) rfl ?_
  intro p e s m args below meth c s₁ B hml hv
  obtain ⟨rfl, hsz, hP, hK, hD0, hNw⟩ := hv
  have hx := B.exec
  have hb := B.bytes
  have hr := B.returns
  have hts := atoms_spec (ws := wsX4_reach) B.pre
  have hown : s.vm.findClass RX4 = some m.cls := findClass_of_methodNamed B.named
  have hlocks := B.notSynchronized
  subst hsz
  have hD := hD0.self (sz := s.heap.size)
  generalize hAe : va_A (qnM a0 jbU jcK jmH jbu jb7 jmH cyI jnu jbU cyI jdC jcK cyI jfY jbu cyI jb1) s.heap.size = A at hD ⊢
  have hA : ∀ q : Nat, s.heap.size ≤ q → A q := fun q h => by rw [← hAe]; exact Or.inr h
  have hS : va_S A s.heap s.heap [] := va_S.rf
  have hP : va_P (dC, dI) vwCl (qnM a0 jbU jcK jmH jbu jb7 jmH cyI jnu jbU cyI jdC jcK cyI jfY jbu cyI jb1) s.heap := hP
  have hl := lv_entry ([.ref a0]) (n := 4) (nbq rfl)
  rw [lg_entry_eq]
  generalize (lg_sl ([.ref a0]) ++ List.replicate (4 - (lg_sl ([.ref a0])).length) Slot.unset).toArray = ls at hl ⊢
  have hl : lv_has ls 4 [(0, .ref a0)] := hl
  have C0 : cfx p s m _ meth c cX4_reach (some .int) wsX4_reach RX4 4 A (dC, dI) (kT cyB cyI cyJ cyP) := ⟨hx, hb, hr, hts, hown, hlocks, hml, hA, hK, hNw⟩
  clear hAe
  obtain ⟨H, hH⟩ : ∃ H, H = s.heap := ⟨_, rfl⟩
  rw [← hH] at hP ⊢
  have hS : va_S A s.heap H [] := by rw [hH]; exact va_S.rf
  have hS := hS
  refine lv_iconst (v := 0) hx hb (qaa qlq 0 rfl) (by decide) ?_
  refine lv_istore_n (lv' := [(1, .int 0), (0, .ref a0)]) hx hb (qaa qlq 1 rfl) rfl hl (by decide) rfl (fun ls hl => ?_)
  refine lv_iconst (v := 0) hx hb (qaa qlq 2 rfl) (by decide) ?_
  refine lv_istore_n (lv' := [(2, .int 0), (1, .int 0), (0, .ref a0)]) hx hb (qaa qlq 3 rfl) rfl hl (by decide) rfl (fun ls hl => ?_)
  obtain ⟨n9, hw⟩ := hw
  exact qaM5 dC dI cyB cyI cyJ cyP a0 jmH jbU jbu jcK jb7 jdC jfY jb1 Q C0 n9 _ _ _ jnu 0 0 hP hD hS (lv_sub hl [2, 1, 0] rfl) hw
theorem qTF : ∀ w ∈ u_ws RX1 TX1 4, w ∈ wsX1_reach := uiM qiw qWg (by decide +kernel)
theorem qP5 : (.fieldLink RX1 28 "MarchHares$Days" "law" "LMarchHares$Law;" : Cond) ∈ wsX1_reach := qiw 323 (by decide +kernel)
set_option maxHeartbeats 4000000 in
set_option maxRecDepth 100000 in
theorem qXY (l : Launch) (dC : Nat → ClassId) (dI : Nat → Nat → Nat) (cyB cyI cyJ cyP : ClassId) (a0 jch jfB jk3 ji0 jjb ji1 jiJ sz : Nat) (jcD jhr jhs jgk jgl jgm jgz jfV jgn jgO jfW jiB : Value) (jdE : NI) (jc6 jj9 : Int32) (jkK jkj jlg jlp : NI) (p1 : Int32) {Q : Int32 → NI → NI → Prop} (hw : qFQ jdE jc6 jj9 jkK jkj jlg jlp p1 Q) : Met l yX1_reach wsX1_reach ({ frames := 2, cells := 0, slots := 0, locals := 55 }) (va_Pc [.ref a0, .int p1] (cPc (dC, dI) (kT cyB cyI cyJ cyP) (qyg a0 jch jcD jfB jk3 jch cyI jdE jfB jhr jhs jgk jgl jgm jgz jfV jgn jgO jc6 jfW jiB jk3 ji1 jiJ jjb ji0 jj9 ji0 cyI jlg jjb cyI jlp ji1 cyI jkK jiJ cyI jkj) sz)) (va_Qi (fun (r : Int32) (u : NI × NI) => Q r u.1 u.2) (cB (dC, dI) (kT cyB cyI cyJ cyP) (va_A (qyg a0 jch jcD jfB jk3 jch cyI jdE jfB jhr jhs jgk jgl jgm jgz jfV jgn jgO jc6 jfW jiB jk3 ji1 jiJ jjb ji0 jj9 ji0 cyI jlg jjb cyI jlp ji1 cyI jkK jiJ cyI jkj) sz) (fun u : NI × NI => ((qyg a0 jch jcD jfB jk3 jch cyI jdE jfB jhr jhs jgk jgl jgm jgz jfV jgn jgO jc6 jfW jiB jk3 ji1 jiJ jjb ji0 jj9 ji0 cyI u.1 jjb cyI u.2 ji1 cyI jkK jiJ cyI jkj) : va_W))) (va_A (qyg a0 jch jcD jfB jk3 jch cyI jdE jfB jhr jhs jgk jgl jgm jgz jfV jgn jgO jc6 jfW jiB jk3 ji1 jiJ jjb ji0 jj9 ji0 cyI jlg jjb cyI jlp ji1 cyI jkK jiJ cyI jkj) sz)) 0 0 (va_A (qyg a0 jch jcD jfB jk3 jch cyI jdE jfB jhr jhs jgk jgl jgm jgz jfV jgn jgO jc6 jfW jiB jk3 ji1 jiJ jjb ji0 jj9 ji0 cyI jlg jjb cyI jlp ji1 cyI jkK jiJ cyI jkj) sz) := by
  refine Met.ofW (cc := cX1_reach) (maxL := 3) (ret := (some .int)) (by decide) rfl ?_
  intro p e s m args below meth c s₁ B hml hv
  obtain ⟨rfl, hsz, hP, hK, hD0, hNw⟩ := hv
  have hx := B.exec
  have hb := B.bytes
  have hr := B.returns
  have hts := atoms_spec (ws := wsX1_reach) B.pre
  have hown : s.vm.findClass RX1 = some m.cls := findClass_of_methodNamed B.named
  have hlocks := B.notSynchronized
  subst hsz
  have hD := hD0.self (sz := s.heap.size)
  generalize hAe : va_A (qyg a0 jch jcD jfB jk3 jch cyI jdE jfB jhr jhs jgk jgl jgm jgz jfV jgn jgO jc6 jfW jiB jk3 ji1 jiJ jjb ji0 jj9 ji0 cyI jlg jjb cyI jlp ji1 cyI jkK jiJ cyI jkj) s.heap.size = A at hD ⊢
  have hA : ∀ q : Nat, s.heap.size ≤ q → A q := fun q h => by rw [← hAe]; exact Or.inr h
  have hS : va_S A s.heap s.heap [] := va_S.rf
  have hP : va_P (dC, dI) vwCl (qyg a0 jch jcD jfB jk3 jch cyI jdE jfB jhr jhs jgk jgl jgm jgz jfV jgn jgO jc6 jfW jiB jk3 ji1 jiJ jjb ji0 jj9 ji0 cyI jlg jjb cyI jlp ji1 cyI jkK jiJ cyI jkj) s.heap := hP
  have hl := lv_entry ([.ref a0, .int p1]) (n := 3) (nbq rfl)
  rw [lg_entry_eq]
  generalize (lg_sl ([.ref a0, .int p1]) ++ List.replicate (3 - (lg_sl ([.ref a0, .int p1])).length) Slot.unset).toArray = ls at hl ⊢
  have hl : lv_has ls 3 [(0, .ref a0), (1, .int p1)] := hl
  have C0 : cfx p s m _ meth c cX1_reach (some .int) wsX1_reach RX1 3 A (dC, dI) (kT cyB cyI cyJ cyP) := ⟨hx, hb, hr, hts, hown, hlocks, hml, hA, hK, hNw⟩
  clear hAe
  obtain ⟨H, hH⟩ : ∃ H, H = s.heap := ⟨_, rfl⟩
  rw [← hH] at hP ⊢
  have hS : va_S A s.heap H [] := by rw [hH]; exact va_S.rf
  have hS := hS
  refine lv_aload_n hx hb (qaa qlm 0 rfl) rfl (lv_at hl 0 rfl) ?_
  refine lv_aload_n hx hb (qaa qlm 1 rfl) rfl (lv_at hl 0 rfl) ?_
  refine lv_iload_n hx hb (qaa qlm 2 rfl) rfl (lv_at hl 1 rfl) ?_
  obtain ⟨hCc, hPc, hDc, hFc⟩ := qac (ws' := (qDB a0 jch jcD jfB jk3 jch cyI jdE)) hP hD hS hA [0, 1] (by decide +kernel) rfl
  refine va_calli (va_runV (As := [.int p1]) (rest := [.ref a0]) ⟨hx, hb, hml, hown, hts⟩ (qvw l dC dI cyB cyI cyJ cyP a0 jch H.size (jcD) (.ref jfB) (.ref jk3) jdE p1 hw) (cwV 1 hts gX1_reach_X1_sits rfl rfl rfl (by decide +kernel) ⟨nbq rfl, nbq rfl⟩) ⟨qab, va_recv (q := (RX1, TX1, 4)) hK hPc (ci := 1) (q0 := 0) rfl rfl, qae hPc hK hDc hNw⟩ rfl rfl hl.1 rfl (lv_room (nbq rfl)) (qaa qlm 3 rfl) ⟨nbq rfl, nbq rfl⟩) hS (fun q _ h => hFc q h) hFc (fun r1 u t H1 locs ht hvm hw hB hz1 hk1 hS => ?_)
  obtain ⟨hP1, hK1, hD1⟩ := hB
  rw [ht] at hP1
  obtain ⟨hP, hD⟩ := qad (wr := (qaDu jfB jhr jhs jgk jgl jgm jgz jfV jgn jgO jc6 jfW jiB jk3 ji1 jiJ jjb ji0 jj9 ji0 cyI jlg jjb cyI jlp ji1 cyI jkK jiJ cyI jkj)) (w1 := (qDB a0 jch jcD jfB jk3 jch cyI jdE)) (wn := (qyg a0 jch jcD jfB jk3 jch cyI jdE jfB jhr jhs jgk jgl jgm jgz jfV jgn jgO jc6 jfW jiB jk3 ji1 jiJ jjb ji0 jj9 ji0 cyI jlg jjb cyI jlp ji1 cyI jkK jiJ cyI jkj)) hP hD [0, 1] [2, 3, 4, 5, 6, 7] [6, 7, 0, 1, 2, 3, 4, 5] hCc rfl (by decide +kernel) (by decide +kernel) (by decide +kernel) rfl hk1 hFc hP1 hD1
  generalize H1 = H at hP hS ⊢
  obtain ⟨hCc, hPc, hDc, hFc⟩ := qac (ws' := (qalG a0 jch jcD jfB jk3 jfB jhr jhs jgk jgl jgm jgz jfV jgn jgO jc6 jfW jiB jch cyI jdE)) hP hD hS hA [0, 2, 1] (by decide +kernel) rfl
  refine va_calli (va_runV (As := [.int r1]) (rest := []) ⟨hx, hb, hml, hown, hts⟩ (qTq l dC dI cyB cyI cyJ cyP a0 jfB jch H.size (jcD) (.ref jk3) (jhr) (jhs) (jgk) (jgl) (jgm) (jgz) (jfV) (jgn) (jgO) (jfW) (jiB) jc6 jdE r1 hw) (cwV 1 hts gX1_reach_X1_seatedIn rfl rfl rfl (by decide +kernel) ⟨nbq rfl, nbq rfl⟩) ⟨qab, va_recv (q := (RX1, TX1, 4)) hK hPc (ci := 1) (q0 := 0) rfl rfl, qae hPc hK hDc hNw⟩ rfl rfl hl.1 rfl (lv_room (nbq rfl)) (qaa qlm 4 rfl) ⟨nbq rfl, nbq rfl⟩) hS (fun q _ h => hFc q h) hFc (fun r2 u t H1 locs ht hvm hw hB hz1 hk1 hS => ?_)
  obtain ⟨hP1, hK1, hD1⟩ := hB
  rw [ht] at hP1
  obtain ⟨hP, hD⟩ := qad (wr := (qaXL jk3 ji1 jiJ jjb ji0 jj9 ji0 cyI jlg jjb cyI jlp ji1 cyI jkK jiJ cyI jkj)) (w1 := (qalG a0 jch jcD jfB jk3 jfB jhr jhs jgk jgl jgm jgz jfV jgn jgO jc6 jfW jiB jch cyI jdE)) (wn := (qyg a0 jch jcD jfB jk3 jch cyI jdE jfB jhr jhs jgk jgl jgm jgz jfV jgn jgO jc6 jfW jiB jk3 ji1 jiJ jjb ji0 jj9 ji0 cyI jlg jjb cyI jlp ji1 cyI jkK jiJ cyI jkj)) hP hD [0, 2, 1] [3, 4, 5, 6, 7] [5, 7, 6, 0, 1, 2, 3, 4] hCc rfl (by decide +kernel) (by decide +kernel) (by decide +kernel) rfl hk1 hFc hP1 hD1
  generalize H1 = H at hP hS ⊢
  refine lv_iconst (v := 1) hx hb (qaa qlm 5 rfl) (by decide) ?_
  refine lv_iload_n hx hb (qaa qlm 6 rfl) rfl (lv_at hl 1 rfl) ?_
  refine lv_ishl hx hb (qaa qlm 7 rfl) ?_
  refine lv_iconst (v := (-1)) hx hb (qaa qlm 8 rfl) (by decide) ?_
  refine lv_ixor hx hb (qaa qlm 9 rfl) ?_
  refine lv_iand hx hb (qaa qlm 10 rfl) ?_
  obtain ⟨hCc, hPc, hDc, hFc⟩ := qac (ws' := []) hP hD hS hA [] (by decide +kernel) rfl
  refine va_calli (va_runS (As := [.int (r2 &&& ((1 <<< (p1 &&& 31)) ^^^ (-1)))]) (rest := []) ⟨hx, hb, hml, hown, hts⟩ (qx2 l dC dI cyB cyI cyJ cyP H.size (r2 &&& ((1 <<< (p1 &&& 31)) ^^^ (-1))) hw) (va_cwS 1 hts gX1_reach_J6_bitCount_0f7a4 rfl rfl rfl (by decide +kernel) ⟨nbq rfl, nbq rfl⟩) ⟨qab, qae hPc hK hDc hNw⟩ rfl rfl hl.1 rfl (lv_room (nbq rfl)) (qaa qlm 11 rfl) ⟨nbq rfl, nbq rfl⟩) hS (fun q _ h => hFc q h) hFc (fun r3 u t H1 locs ht hvm hw hB hz1 hk1 hS => ?_)
  obtain ⟨hP1, hK1, hD1⟩ := hB
  rw [ht] at hP1
  obtain ⟨hP, hD⟩ := qah (wr := (qyg a0 jch jcD jfB jk3 jch cyI jdE jfB jhr jhs jgk jgl jgm jgz jfV jgn jgO jc6 jfW jiB jk3 ji1 jiJ jjb ji0 jj9 ji0 cyI jlg jjb cyI jlp ji1 cyI jkK jiJ cyI jkj)) (w1 := []) (wn := (qyg a0 jch jcD jfB jk3 jch cyI jdE jfB jhr jhs jgk jgl jgm jgz jfV jgn jgO jc6 jfW jiB jk3 ji1 jiJ jjb ji0 jj9 ji0 cyI jlg jjb cyI jlp ji1 cyI jkK jiJ cyI jkj)) hP hD [] [0, 1, 2, 3, 4, 5, 6, 7] hCc rfl (by decide +kernel) (by decide +kernel) rfl hk1 hFc hP1 hD1
  generalize H1 = H at hP hS ⊢
  refine lv_istore_n (lv' := [(2, .int r3), (0, .ref a0), (1, .int p1)]) hx hb (qaa qlm 12 rfl) rfl hl (by decide) rfl (fun ls hl => ?_)
  refine lv_aload_n hx hb (qaa qlm 13 rfl) rfl (lv_at hl 1 rfl) ?_
  refine va_get (D := (dC, dI)) (ci := 1) (v := .ref jk3) (C := RX1) (T := TX1) (N := 4) hx hb hts qTF hown hK hP 0 rfl rfl 3 (by decide) (hts _ qP5) (fun _ h9 => h9) rfl (qaa qlm 14 rfl) ?_
  refine lv_aload_n hx hb (qaa qlm 15 rfl) rfl (lv_at hl 1 rfl) ?_
  refine lv_iload_n hx hb (qaa qjU 0 rfl) rfl (lv_at hl 2 rfl) ?_
  obtain ⟨hCc, hPc, hDc, hFc⟩ := qac (ws' := (qDB a0 jch jcD jfB jk3 jch cyI jdE)) hP hD hS hA [0, 1] (by decide +kernel) rfl
  refine va_calli (va_runV (As := [.int p1]) (rest := [.ref jk3]) ⟨hx, hb, hml, hown, hts⟩ (qsD l dC dI cyB cyI cyJ cyP a0 jch H.size (jcD) (.ref jfB) (.ref jk3) jdE p1 hw) (cwV 1 hts gX1_reach_X1_strong rfl rfl rfl (by decide +kernel) ⟨nbq rfl, nbq rfl⟩) ⟨qab, va_recv (q := (RX1, TX1, 4)) hK hPc (ci := 1) (q0 := 0) rfl rfl, qae hPc hK hDc hNw⟩ rfl rfl hl.1 rfl (lv_room (nbq rfl)) (qaa qjU 1 rfl) ⟨nbq rfl, nbq rfl⟩) hS (fun q _ h => hFc q h) hFc (fun r4 u t H1 locs ht hvm hw hB hz1 hk1 hS => ?_)
  obtain ⟨hP1, hK1, hD1⟩ := hB
  rw [ht] at hP1
  obtain ⟨hP, hD⟩ := qad (wr := (qaDu jfB jhr jhs jgk jgl jgm jgz jfV jgn jgO jc6 jfW jiB jk3 ji1 jiJ jjb ji0 jj9 ji0 cyI jlg jjb cyI jlp ji1 cyI jkK jiJ cyI jkj)) (w1 := (qDB a0 jch jcD jfB jk3 jch cyI jdE)) (wn := (qyg a0 jch jcD jfB jk3 jch cyI jdE jfB jhr jhs jgk jgl jgm jgz jfV jgn jgO jc6 jfW jiB jk3 ji1 jiJ jjb ji0 jj9 ji0 cyI jlg jjb cyI jlp ji1 cyI jkK jiJ cyI jkj)) hP hD [0, 1] [2, 3, 4, 5, 6, 7] [6, 7, 0, 1, 2, 3, 4, 5] hCc rfl (by decide +kernel) (by decide +kernel) (by decide +kernel) rfl hk1 hFc hP1 hD1
  generalize H1 = H at hP hS ⊢
  refine lv_aload_n hx hb (qaa qjU 2 rfl) rfl (lv_at hl 1 rfl) ?_
  refine lv_iload_n hx hb (qaa qjU 3 rfl) rfl (lv_at hl 2 rfl) ?_
  obtain ⟨hCc, hPc, hDc, hFc⟩ := qac (ws' := (qDB a0 jch jcD jfB jk3 jch cyI jdE)) hP hD hS hA [0, 1] (by decide +kernel) rfl
  refine va_calli (va_runV (As := [.int p1]) (rest := [.int r4, .ref jk3]) ⟨hx, hb, hml, hown, hts⟩ (q9d l dC dI cyB cyI cyJ cyP a0 jch H.size (jcD) (.ref jfB) (.ref jk3) jdE p1 hw) (cwV 1 hts gX1_reach_X1_still rfl rfl rfl (by decide +kernel) ⟨nbq rfl, nbq rfl⟩) ⟨qab, va_recv (q := (RX1, TX1, 4)) hK hPc (ci := 1) (q0 := 0) rfl rfl, qae hPc hK hDc hNw⟩ rfl rfl hl.1 rfl (lv_room (nbq rfl)) (qaa qjU 4 rfl) ⟨nbq rfl, nbq rfl⟩) hS (fun q _ h => hFc q h) hFc (fun r5 u t H1 locs ht hvm hw hB hz1 hk1 hS => ?_)
  obtain ⟨hP1, hK1, hD1⟩ := hB
  rw [ht] at hP1
  obtain ⟨hP, hD⟩ := qad (wr := (qaDu jfB jhr jhs jgk jgl jgm jgz jfV jgn jgO jc6 jfW jiB jk3 ji1 jiJ jjb ji0 jj9 ji0 cyI jlg jjb cyI jlp ji1 cyI jkK jiJ cyI jkj)) (w1 := (qDB a0 jch jcD jfB jk3 jch cyI jdE)) (wn := (qyg a0 jch jcD jfB jk3 jch cyI jdE jfB jhr jhs jgk jgl jgm jgz jfV jgn jgO jc6 jfW jiB jk3 ji1 jiJ jjb ji0 jj9 ji0 cyI jlg jjb cyI jlp ji1 cyI jkK jiJ cyI jkj)) hP hD [0, 1] [2, 3, 4, 5, 6, 7] [6, 7, 0, 1, 2, 3, 4, 5] hCc rfl (by decide +kernel) (by decide +kernel) (by decide +kernel) rfl hk1 hFc hP1 hD1
  generalize H1 = H at hP hS ⊢
  refine lv_aload_n hx hb (qaa qjU 5 rfl) rfl (lv_at hl 1 rfl) ?_
  refine lv_iload_n hx hb (qaa qjU 6 rfl) rfl (lv_at hl 2 rfl) ?_
  obtain ⟨hCc, hPc, hDc, hFc⟩ := qac (ws' := (qalG a0 jch jcD jfB jk3 jfB jhr jhs jgk jgl jgm jgz jfV jgn jgO jc6 jfW jiB jch cyI jdE)) hP hD hS hA [0, 2, 1] (by decide +kernel) rfl
  refine va_calli (va_runV (As := [.int p1]) (rest := [.int r5, .int r4, .ref jk3]) ⟨hx, hb, hml, hown, hts⟩ (qaiy l dC dI cyB cyI cyJ cyP a0 jfB jch H.size (jcD) (.ref jk3) (jhr) (jhs) (jgk) (jgl) (jgm) (jgz) (jfV) (jgn) (jgO) (jfW) (jiB) jc6 jdE p1 hw) (cwV 1 hts gX1_reach_X1_owes rfl rfl rfl (by decide +kernel) ⟨nbq rfl, nbq rfl⟩) ⟨qab, va_recv (q := (RX1, TX1, 4)) hK hPc (ci := 1) (q0 := 0) rfl rfl, qae hPc hK hDc hNw⟩ rfl rfl hl.1 rfl (lv_room (nbq rfl)) (qaa qjU 7 rfl) ⟨nbq rfl, nbq rfl⟩) hS (fun q _ h => hFc q h) hFc (fun r6 u t H1 locs ht hvm hw hB hz1 hk1 hS => ?_)
  obtain ⟨hP1, hK1, hD1⟩ := hB
  rw [ht] at hP1
  obtain ⟨hP, hD⟩ := qad (wr := (qaXL jk3 ji1 jiJ jjb ji0 jj9 ji0 cyI jlg jjb cyI jlp ji1 cyI jkK jiJ cyI jkj)) (w1 := (qalG a0 jch jcD jfB jk3 jfB jhr jhs jgk jgl jgm jgz jfV jgn jgO jc6 jfW jiB jch cyI jdE)) (wn := (qyg a0 jch jcD jfB jk3 jch cyI jdE jfB jhr jhs jgk jgl jgm jgz jfV jgn jgO jc6 jfW jiB jk3 ji1 jiJ jjb ji0 jj9 ji0 cyI jlg jjb cyI jlp ji1 cyI jkK jiJ cyI jkj)) hP hD [0, 2, 1] [3, 4, 5, 6, 7] [5, 7, 6, 0, 1, 2, 3, 4] hCc rfl (by decide +kernel) (by decide +kernel) (by decide +kernel) rfl hk1 hFc hP1 hD1
  generalize H1 = H at hP hS ⊢
  refine lv_aload_n hx hb (qaa qjU 8 rfl) rfl (lv_at hl 1 rfl) ?_
  refine lv_iload_n hx hb (qaa qjU 9 rfl) rfl (lv_at hl 2 rfl) ?_
  obtain ⟨hCc, hPc, hDc, hFc⟩ := qac (ws' := (qalG a0 jch jcD jfB jk3 jfB jhr jhs jgk jgl jgm jgz jfV jgn jgO jc6 jfW jiB jch cyI jdE)) hP hD hS hA [0, 2, 1] (by decide +kernel) rfl
  refine va_calli (va_runV (As := [.int p1]) (rest := [.int r6, .int r5, .int r4, .ref jk3]) ⟨hx, hb, hml, hown, hts⟩ (qaj8 l dC dI cyB cyI cyJ cyP a0 jfB jch H.size (jcD) (.ref jk3) (jhr) (jhs) (jgk) (jgl) (jgm) (jgz) (jfV) (jgn) (jgO) (jfW) (jiB) jc6 jdE p1 hw) (cwV 1 hts gX1_reach_X1_owed rfl rfl rfl (by decide +kernel) ⟨nbq rfl, nbq rfl⟩) ⟨qab, va_recv (q := (RX1, TX1, 4)) hK hPc (ci := 1) (q0 := 0) rfl rfl, qae hPc hK hDc hNw⟩ rfl rfl hl.1 rfl (lv_room (nbq rfl)) (qaa qjU 10 rfl) ⟨nbq rfl, nbq rfl⟩) hS (fun q _ h => hFc q h) hFc (fun r7 u t H1 locs ht hvm hw hB hz1 hk1 hS => ?_)
  obtain ⟨hP1, hK1, hD1⟩ := hB
  rw [ht] at hP1
  obtain ⟨hP, hD⟩ := qad (wr := (qaXL jk3 ji1 jiJ jjb ji0 jj9 ji0 cyI jlg jjb cyI jlp ji1 cyI jkK jiJ cyI jkj)) (w1 := (qalG a0 jch jcD jfB jk3 jfB jhr jhs jgk jgl jgm jgz jfV jgn jgO jc6 jfW jiB jch cyI jdE)) (wn := (qyg a0 jch jcD jfB jk3 jch cyI jdE jfB jhr jhs jgk jgl jgm jgz jfV jgn jgO jc6 jfW jiB jk3 ji1 jiJ jjb ji0 jj9 ji0 cyI jlg jjb cyI jlp ji1 cyI jkK jiJ cyI jkj)) hP hD [0, 2, 1] [3, 4, 5, 6, 7] [5, 7, 6, 0, 1, 2, 3, 4] hCc rfl (by decide +kernel) (by decide +kernel) (by decide +kernel) rfl hk1 hFc hP1 hD1
  generalize H1 = H at hP hS ⊢
  refine lv_iload_n hx hb (qaa qjU 11 rfl) rfl (lv_at hl 0 rfl) ?_
  obtain ⟨hCc, hPc, hDc, hFc⟩ := qac (ws' := (qaOt jk3 ji1 jiJ jjb ji0 jj9 ji0 cyI jlg)) hP hD hS hA [3, 4] (by decide +kernel) rfl
  refine va_callv (va_runV (As := [.int r4, .int r5, .int r6, .int r7, .int r3]) (rest := []) ⟨hx, hb, hml, hown, hts⟩ (q8k l dC dI cyB cyI cyJ cyP jk3 ji0 H.size (.ref ji1) (.ref jiJ) (.ref jjb) (.int jj9) jlg r4 r5 r6 r7 r3 hw) (cwV 5 hts gX1_reach_X4_setFacts rfl rfl rfl (by decide +kernel) ⟨nbq rfl, nbq rfl⟩) ⟨qab, va_recv (q := (RX4, TX4, 5)) hK hPc (ci := 4) (q0 := 0) rfl rfl, qae hPc hK hDc hNw⟩ rfl rfl hl.1 rfl (lv_room (nbq rfl)) (qaa qjU 12 rfl) ⟨nbq rfl, nbq rfl⟩) hS (fun q _ h => hFc q h) hFc (fun u t H1 locs ht hvm hw hB hz1 hk1 hS => ?_)
  obtain ⟨f8, rfl⟩ : ∃ z, z = u := ⟨_, rfl⟩
  obtain ⟨hP1, hK1, hD1⟩ := hB
  rw [ht] at hP1
  obtain ⟨hP, hD⟩ := qad (wr := (qa5p a0 jch jcD jfB jk3 jch cyI jdE jfB jhr jhs jgk jgl jgm jgz jfV jgn jgO jc6 jfW jiB jjb cyI jlp ji1 cyI jkK jiJ cyI jkj)) (w1 := (qaOt jk3 ji1 jiJ jjb ji0 jj9 ji0 cyI f8)) (wn := (qyg a0 jch jcD jfB jk3 jch cyI jdE jfB jhr jhs jgk jgl jgm jgz jfV jgn jgO jc6 jfW jiB jk3 ji1 jiJ jjb ji0 jj9 ji0 cyI f8 jjb cyI jlp ji1 cyI jkK jiJ cyI jkj)) hP hD [3, 4] [0, 1, 2, 5, 6, 7] [0, 1, 2, 6, 7, 3, 4, 5] hCc rfl (by decide +kernel) (by decide +kernel) (by decide +kernel) rfl hk1 hFc hP1 hD1
  generalize H1 = H at hP hS ⊢
  refine lv_aload_n hx hb (qaa qjU 13 rfl) rfl (lv_at hl 1 rfl) ?_
  refine va_get (D := (dC, dI)) (ci := 1) (v := .ref jk3) (C := RX1) (T := TX1) (N := 4) hx hb hts qTF hown hK hP 0 rfl rfl 3 (by decide) (hts _ qP5) (fun _ h9 => h9) rfl (qaa qjU 14 rfl) ?_
  refine lv_aload_n hx hb (qaa qjU 15 rfl) rfl (lv_at hl 1 rfl) ?_
  obtain ⟨hCc, hPc, hDc, hFc⟩ := qac (ws' := (qDB a0 jch jcD jfB jk3 jch cyI jdE)) hP hD hS hA [0, 1] (by decide +kernel) rfl
  refine va_calli (va_runV (As := []) (rest := [.ref jk3]) ⟨hx, hb, hml, hown, hts⟩ (qag9 l dC dI cyB cyI cyJ cyP a0 jch H.size (jcD) (.ref jfB) (.ref jk3) jdE hw) (cwV 0 hts gX1_reach_X1_day rfl rfl rfl (by decide +kernel) ⟨nbq rfl, nbq rfl⟩) ⟨qab, va_recv (q := (RX1, TX1, 4)) hK hPc (ci := 1) (q0 := 0) rfl rfl, qae hPc hK hDc hNw⟩ rfl rfl hl.1 rfl (lv_room (nbq rfl)) (qaa qrH 0 rfl) ⟨nbq rfl, nbq rfl⟩) hS (fun q _ h => hFc q h) hFc (fun r9 u t H1 locs ht hvm hw hB hz1 hk1 hS => ?_)
  obtain ⟨hP1, hK1, hD1⟩ := hB
  rw [ht] at hP1
  obtain ⟨hP, hD⟩ := qad (wr := (qaDu jfB jhr jhs jgk jgl jgm jgz jfV jgn jgO jc6 jfW jiB jk3 ji1 jiJ jjb ji0 jj9 ji0 cyI f8 jjb cyI jlp ji1 cyI jkK jiJ cyI jkj)) (w1 := (qDB a0 jch jcD jfB jk3 jch cyI jdE)) (wn := (qyg a0 jch jcD jfB jk3 jch cyI jdE jfB jhr jhs jgk jgl jgm jgz jfV jgn jgO jc6 jfW jiB jk3 ji1 jiJ jjb ji0 jj9 ji0 cyI f8 jjb cyI jlp ji1 cyI jkK jiJ cyI jkj)) hP hD [0, 1] [2, 3, 4, 5, 6, 7] [6, 7, 0, 1, 2, 3, 4, 5] hCc rfl (by decide +kernel) (by decide +kernel) (by decide +kernel) rfl hk1 hFc hP1 hD1
  generalize H1 = H at hP hS ⊢
  refine lv_iload_n hx hb (qaa qrH 1 rfl) rfl (lv_at hl 2 rfl) ?_
  refine lv_aload_n hx hb (qaa qrH 2 rfl) rfl (lv_at hl 1 rfl) ?_
  refine lv_iload_n hx hb (qaa qrH 3 rfl) rfl (lv_at hl 2 rfl) ?_
  obtain ⟨hCc, hPc, hDc, hFc⟩ := qac (ws' := (qDB a0 jch jcD jfB jk3 jch cyI jdE)) hP hD hS hA [0, 1] (by decide +kernel) rfl
  refine va_calli (va_runV (As := [.int p1]) (rest := [.int p1, .int r9, .ref jk3]) ⟨hx, hb, hml, hown, hts⟩ (qaB4 l dC dI cyB cyI cyJ cyP a0 jch H.size (jcD) (.ref jfB) (.ref jk3) jdE p1 hw) (cwV 1 hts gX1_reach_X1_leaps rfl rfl rfl (by decide +kernel) ⟨nbq rfl, nbq rfl⟩) ⟨qab, va_recv (q := (RX1, TX1, 4)) hK hPc (ci := 1) (q0 := 0) rfl rfl, qae hPc hK hDc hNw⟩ rfl rfl hl.1 rfl (lv_room (nbq rfl)) (qaa qrH 4 rfl) ⟨nbq rfl, nbq rfl⟩) hS (fun q _ h => hFc q h) hFc (fun r10 u t H1 locs ht hvm hw hB hz1 hk1 hS => ?_)
  obtain ⟨hP1, hK1, hD1⟩ := hB
  rw [ht] at hP1
  obtain ⟨hP, hD⟩ := qad (wr := (qaDu jfB jhr jhs jgk jgl jgm jgz jfV jgn jgO jc6 jfW jiB jk3 ji1 jiJ jjb ji0 jj9 ji0 cyI f8 jjb cyI jlp ji1 cyI jkK jiJ cyI jkj)) (w1 := (qDB a0 jch jcD jfB jk3 jch cyI jdE)) (wn := (qyg a0 jch jcD jfB jk3 jch cyI jdE jfB jhr jhs jgk jgl jgm jgz jfV jgn jgO jc6 jfW jiB jk3 ji1 jiJ jjb ji0 jj9 ji0 cyI f8 jjb cyI jlp ji1 cyI jkK jiJ cyI jkj)) hP hD [0, 1] [2, 3, 4, 5, 6, 7] [6, 7, 0, 1, 2, 3, 4, 5] hCc rfl (by decide +kernel) (by decide +kernel) (by decide +kernel) rfl hk1 hFc hP1 hD1
  generalize H1 = H at hP hS ⊢
  obtain ⟨hCc, hPc, hDc, hFc⟩ := qac (ws' := (qaOt jk3 ji1 jiJ jjb ji0 jj9 ji0 cyI f8)) hP hD hS hA [3, 4] (by decide +kernel) rfl
  refine va_callv (va_runV (As := [.int r9, .int p1, .int r10]) (rest := []) ⟨hx, hb, hml, hown, hts⟩ (q7m l dC dI cyB cyI cyJ cyP jk3 ji0 H.size (.ref ji1) (.ref jiJ) (.ref jjb) (.int jj9) f8 r9 p1 r10 hw) (cwV 3 hts gX1_reach_X4_setTimes rfl rfl rfl (by decide +kernel) ⟨nbq rfl, nbq rfl⟩) ⟨qab, va_recv (q := (RX4, TX4, 5)) hK hPc (ci := 4) (q0 := 0) rfl rfl, qae hPc hK hDc hNw⟩ rfl rfl hl.1 rfl (lv_room (nbq rfl)) (qaa qrH 5 rfl) ⟨nbq rfl, nbq rfl⟩) hS (fun q _ h => hFc q h) hFc (fun u t H1 locs ht hvm hw hB hz1 hk1 hS => ?_)
  obtain ⟨f11, rfl⟩ : ∃ z, z = u := ⟨_, rfl⟩
  obtain ⟨hP1, hK1, hD1⟩ := hB
  rw [ht] at hP1
  obtain ⟨hP, hD⟩ := qad (wr := (qa5p a0 jch jcD jfB jk3 jch cyI jdE jfB jhr jhs jgk jgl jgm jgz jfV jgn jgO jc6 jfW jiB jjb cyI jlp ji1 cyI jkK jiJ cyI jkj)) (w1 := (qaOt jk3 ji1 jiJ jjb ji0 jj9 ji0 cyI f11)) (wn := (qyg a0 jch jcD jfB jk3 jch cyI jdE jfB jhr jhs jgk jgl jgm jgz jfV jgn jgO jc6 jfW jiB jk3 ji1 jiJ jjb ji0 jj9 ji0 cyI f11 jjb cyI jlp ji1 cyI jkK jiJ cyI jkj)) hP hD [3, 4] [0, 1, 2, 5, 6, 7] [0, 1, 2, 6, 7, 3, 4, 5] hCc rfl (by decide +kernel) (by decide +kernel) (by decide +kernel) rfl hk1 hFc hP1 hD1
  generalize H1 = H at hP hS ⊢
  refine lv_aload_n hx hb (qaa qrH 6 rfl) rfl (lv_at hl 1 rfl) ?_
  refine va_get (D := (dC, dI)) (ci := 1) (v := .ref jk3) (C := RX1) (T := TX1) (N := 4) hx hb hts qTF hown hK hP 0 rfl rfl 3 (by decide) (hts _ qP5) (fun _ h9 => h9) rfl (qaa qrH 7 rfl) ?_
  obtain ⟨hCc, hPc, hDc, hFc⟩ := qac (ws' := (qnM jk3 ji1 jiJ jjb ji0 jj9 jjb cyI jlp ji1 cyI jkK jiJ cyI jkj ji0 cyI f11)) hP hD hS hA [3, 5, 6, 7, 4] (by decide +kernel) rfl
  refine va_calli (va_runV (As := []) (rest := []) ⟨hx, hb, hml, hown, hts⟩ (qavk l dC dI cyB cyI cyJ cyP jk3 jjb ji1 ji0 jiJ H.size jj9 jkK jkj f11 jlp hw) (cwV 0 hts gX1_reach_X4_reach rfl rfl rfl (by decide +kernel) ⟨nbq rfl, nbq rfl⟩) ⟨qab, va_recv (q := (RX4, TX4, 5)) hK hPc (ci := 4) (q0 := 0) rfl rfl, qae hPc hK hDc hNw⟩ rfl rfl hl.1 rfl (lv_room (nbq rfl)) (qaa qrH 8 rfl) ⟨nbq rfl, nbq rfl⟩) hS (fun q _ h => hFc q h) hFc (fun r13 u t H1 locs ht hvm hw hB hz1 hk1 hS => ?_)
  obtain ⟨f12, rfl⟩ : ∃ z, z = u := ⟨_, rfl⟩
  obtain ⟨hP1, hK1, hD1⟩ := hB
  rw [ht] at hP1
  obtain ⟨hP, hD⟩ := qad (wr := [(a0, .inr (1, [.ref jch, jcD, .ref jfB, .ref jk3])), (jch, .inl (cyI, 64, .inl jdE)), (jfB, .inr (2, [jhr, jhs, jgk, jgl, jgm, jgz, jfV, jgn, jgO, .int jc6, jfW, jiB]))]) (w1 := (qnM jk3 ji1 jiJ jjb ji0 jj9 jjb cyI f12 ji1 cyI jkK jiJ cyI jkj ji0 cyI f11)) (wn := (qyg a0 jch jcD jfB jk3 jch cyI jdE jfB jhr jhs jgk jgl jgm jgz jfV jgn jgO jc6 jfW jiB jk3 ji1 jiJ jjb ji0 jj9 ji0 cyI f11 jjb cyI f12 ji1 cyI jkK jiJ cyI jkj)) hP hD [3, 5, 6, 7, 4] [0, 1, 2] [0, 1, 2, 3, 7, 4, 5, 6] hCc rfl (by decide +kernel) (by decide +kernel) (by decide +kernel) rfl hk1 hFc hP1 hD1
  generalize H1 = H at hP hS ⊢
  exact ((W.iret (v := r13) hx hb hr (fun t ht hW => ⟨⟨r13, (f11, f12), rfl, hw, by rw [ht]; exact hP, va_K.moved hW.alike hK, hD⟩, hS.F ht⟩) hS.2.2 (qaa qrH 9 rfl)))
theorem qahg : ∀ w ∈ u_ws RX1 TX1 4, w ∈ wsX1_couldLeap := uiM qrP qWg (by decide +kernel)
theorem qaaE : (.fieldLink RX1 24 "MarchHares$Days" "down" "LMarchHares$Down;" : Cond) ∈ wsX1_couldLeap := qrP 322 (by decide +kernel)
set_option maxHeartbeats 4000000 in
set_option maxRecDepth 100000 in
theorem qRq (l : Launch) (dC : Nat → ClassId) (dI : Nat → Nat → Nat) (cyB cyI cyJ cyP : ClassId) (a0 jch jfB jjJ jjK jk3 ji0 jjb ji1 jiJ sz : Nat) (jcD jgk jgl jgm jgz jfV jgn jgO jfW jiB : Value) (jdE : NI) (jc6 : Int32) (jlh jli : NI) (jj9 : Int32) (jkK jkj jlg jlp : NI) (p1 p2 : Int32) {Q : Int32 → NI → NI → Prop} (hw : qyi jdE jc6 jlh jli jj9 jkK jkj jlg jlp p1 p2 Q) : Met l yX1_couldLeap wsX1_couldLeap ({ frames := 3, cells := 0, slots := 0, locals := 77 }) (va_Pc [.ref a0, .int p1, .int p2] (cPc (dC, dI) (kT cyB cyI cyJ cyP) (qMi a0 jch jcD jfB jk3 jch cyI jdE jfB jjJ jjK jgk jgl jgm jgz jfV jgn jgO jc6 jfW jiB jjJ cyI jlh jjK cyI jli jk3 ji1 jiJ jjb ji0 jj9 ji0 cyI jlg jjb cyI jlp ji1 cyI jkK jiJ cyI jkj) sz)) (va_Qi (fun (r : Int32) (u : NI × NI) => Q r u.1 u.2) (cB (dC, dI) (kT cyB cyI cyJ cyP) (va_A (qMi a0 jch jcD jfB jk3 jch cyI jdE jfB jjJ jjK jgk jgl jgm jgz jfV jgn jgO jc6 jfW jiB jjJ cyI jlh jjK cyI jli jk3 ji1 jiJ jjb ji0 jj9 ji0 cyI jlg jjb cyI jlp ji1 cyI jkK jiJ cyI jkj) sz) (fun u : NI × NI => ((qMi a0 jch jcD jfB jk3 jch cyI jdE jfB jjJ jjK jgk jgl jgm jgz jfV jgn jgO jc6 jfW jiB jjJ cyI jlh jjK cyI jli jk3 ji1 jiJ jjb ji0 jj9 ji0 cyI u.1 jjb cyI u.2 ji1 cyI jkK jiJ cyI jkj) : va_W))) (va_A (qMi a0 jch jcD jfB jk3 jch cyI jdE jfB jjJ jjK jgk jgl jgm jgz jfV jgn jgO jc6 jfW jiB jjJ cyI jlh jjK cyI jli jk3 ji1 jiJ jjb ji0 jj9 ji0 cyI jlg jjb cyI jlp ji1 cyI jkK jiJ cyI jkj) sz)) 0 0 (va_A (qMi a0 jch jcD jfB jk3 jch cyI jdE jfB jjJ jjK jgk jgl jgm jgz jfV jgn jgO jc6 jfW jiB jjJ cyI jlh jjK cyI jli jk3 ji1 jiJ jjb ji0 jj9 ji0 cyI jlg jjb cyI jlp ji1 cyI jkK jiJ cyI jkj) sz) := by
  refine Met.ofW (cc := cX1_couldLeap) (maxL := 3) (ret := (some .boolean)) (by decide) rfl ?_
  intro p e s m args below meth c s₁ B hml hv
  obtain ⟨rfl, hsz, hP, hK, hD0, hNw⟩ := hv
  have hx := B.exec
  have hb := B.bytes
  have hr := B.returns
  have hts := atoms_spec (ws := wsX1_couldLeap) B.pre
  have hown : s.vm.findClass RX1 = some m.cls := findClass_of_methodNamed B.named
  have hlocks := B.notSynchronized
  subst hsz
  have hD := hD0.self (sz := s.heap.size)
  generalize hAe : va_A (qMi a0 jch jcD jfB jk3 jch cyI jdE jfB jjJ jjK jgk jgl jgm jgz jfV jgn jgO jc6 jfW jiB jjJ cyI jlh jjK cyI jli jk3 ji1 jiJ jjb ji0 jj9 ji0 cyI jlg jjb cyI jlp ji1 cyI jkK jiJ cyI jkj) s.heap.size = A at hD ⊢
  have hA : ∀ q : Nat, s.heap.size ≤ q → A q := fun q h => by rw [← hAe]; exact Or.inr h
  have hS : va_S A s.heap s.heap [] := va_S.rf
  have hP : va_P (dC, dI) vwCl (qMi a0 jch jcD jfB jk3 jch cyI jdE jfB jjJ jjK jgk jgl jgm jgz jfV jgn jgO jc6 jfW jiB jjJ cyI jlh jjK cyI jli jk3 ji1 jiJ jjb ji0 jj9 ji0 cyI jlg jjb cyI jlp ji1 cyI jkK jiJ cyI jkj) s.heap := hP
  have hl := lv_entry ([.ref a0, .int p1, .int p2]) (n := 3) (nbq rfl)
  rw [lg_entry_eq]
  generalize (lg_sl ([.ref a0, .int p1, .int p2]) ++ List.replicate (3 - (lg_sl ([.ref a0, .int p1, .int p2])).length) Slot.unset).toArray = ls at hl ⊢
  have hl : lv_has ls 3 [(0, .ref a0), (1, .int p1), (2, .int p2)] := hl
  have C0 : cfx p s m _ meth c cX1_couldLeap (some .boolean) wsX1_couldLeap RX1 3 A (dC, dI) (kT cyB cyI cyJ cyP) := ⟨hx, hb, hr, hts, hown, hlocks, hml, hA, hK, hNw⟩
  clear hAe
  obtain ⟨H, hH⟩ : ∃ H, H = s.heap := ⟨_, rfl⟩
  rw [← hH] at hP ⊢
  have hS : va_S A s.heap H [] := by rw [hH]; exact va_S.rf
  have hS := hS
  refine lv_aload_n hx hb (qaa qek 0 rfl) rfl (lv_at hl 0 rfl) ?_
  refine lv_iload_n hx hb (qaa qek 1 rfl) rfl (lv_at hl 1 rfl) ?_
  obtain ⟨hCc, hPc, hDc, hFc⟩ := qac (ws' := (qDB a0 jch jcD jfB jk3 jch cyI jdE)) hP hD hS hA [0, 1] (by decide +kernel) rfl
  refine va_calli (va_runV (As := [.int p1]) (rest := []) ⟨hx, hb, hml, hown, hts⟩ (qia l dC dI cyB cyI cyJ cyP a0 jch H.size (jcD) (.ref jfB) (.ref jk3) jdE p1 hw) (cwV 1 hts gX1_couldLeap_X1_isCaught rfl rfl rfl (by decide +kernel) ⟨nbq rfl, nbq rfl⟩) ⟨qab, va_recv (q := (RX1, TX1, 4)) hK hPc (ci := 1) (q0 := 0) rfl rfl, qae hPc hK hDc hNw⟩ rfl rfl hl.1 rfl (lv_room (nbq rfl)) (qaa qek 2 rfl) ⟨nbq rfl, nbq rfl⟩) hS (fun q _ h => hFc q h) hFc (fun r1 u t H1 locs ht hvm hw hB hz1 hk1 hS => ?_)
  obtain ⟨hP1, hK1, hD1⟩ := hB
  rw [ht] at hP1
  obtain ⟨hP, hD⟩ := qad (wr := (qaYd jfB jjJ jjK jgk jgl jgm jgz jfV jgn jgO jc6 jfW jiB jjJ cyI jlh jjK cyI jli jk3 ji1 jiJ jjb ji0 jj9 ji0 cyI jlg jjb cyI jlp ji1 cyI jkK jiJ cyI jkj)) (w1 := (qDB a0 jch jcD jfB jk3 jch cyI jdE)) (wn := (qMi a0 jch jcD jfB jk3 jch cyI jdE jfB jjJ jjK jgk jgl jgm jgz jfV jgn jgO jc6 jfW jiB jjJ cyI jlh jjK cyI jli jk3 ji1 jiJ jjb ji0 jj9 ji0 cyI jlg jjb cyI jlp ji1 cyI jkK jiJ cyI jkj)) hP hD [0, 1] [2, 3, 4, 5, 6, 7, 8, 9] [8, 9, 0, 1, 2, 3, 4, 5, 6, 7] hCc rfl (by decide +kernel) (by decide +kernel) (by decide +kernel) rfl hk1 hFc hP1 hD1
  generalize H1 = H at hP hS ⊢
  refine lv_if_ne (tgt := 42) hx hb (qaa qek 3 rfl) (by decide) (fun c2 => ?_) (fun c2 => ?_)
  · have hw := hw.1 c2
    refine lv_iconst (v := 0) hx hb (qaa qgl 6 rfl) (by decide) ?_
    exact ((W.zret (v := 0) hx hb hr rfl (fun t ht hW => ⟨⟨0, (jlg, jlp), rfl, hw, by rw [ht]; exact hP, va_K.moved hW.alike hK, hD⟩, hS.F ht⟩) hS.2.2 (qaa qgl 7 rfl)))
  · have hw := hw.2 c2
    refine lv_aload_n hx hb (qaa qek 4 rfl) rfl (lv_at hl 0 rfl) ?_
    refine lv_iload_n hx hb (qaa qek 5 rfl) rfl (lv_at hl 1 rfl) ?_
    obtain ⟨hCc, hPc, hDc, hFc⟩ := qac (ws' := (qDB a0 jch jcD jfB jk3 jch cyI jdE)) hP hD hS hA [0, 1] (by decide +kernel) rfl
    refine va_calli (va_runV (As := [.int p1]) (rest := []) ⟨hx, hb, hml, hown, hts⟩ (qvw l dC dI cyB cyI cyJ cyP a0 jch H.size (jcD) (.ref jfB) (.ref jk3) jdE p1 hw) (cwV 1 hts gX1_couldLeap_X1_sits rfl rfl rfl (by decide +kernel) ⟨nbq rfl, nbq rfl⟩) ⟨qab, va_recv (q := (RX1, TX1, 4)) hK hPc (ci := 1) (q0 := 0) rfl rfl, qae hPc hK hDc hNw⟩ rfl rfl hl.1 rfl (lv_room (nbq rfl)) (qaa qek 6 rfl) ⟨nbq rfl, nbq rfl⟩) hS (fun q _ h => hFc q h) hFc (fun r3 u t H1 locs ht hvm hw hB hz1 hk1 hS => ?_)
    obtain ⟨hP1, hK1, hD1⟩ := hB
    rw [ht] at hP1
    obtain ⟨hP, hD⟩ := qad (wr := (qaYd jfB jjJ jjK jgk jgl jgm jgz jfV jgn jgO jc6 jfW jiB jjJ cyI jlh jjK cyI jli jk3 ji1 jiJ jjb ji0 jj9 ji0 cyI jlg jjb cyI jlp ji1 cyI jkK jiJ cyI jkj)) (w1 := (qDB a0 jch jcD jfB jk3 jch cyI jdE)) (wn := (qMi a0 jch jcD jfB jk3 jch cyI jdE jfB jjJ jjK jgk jgl jgm jgz jfV jgn jgO jc6 jfW jiB jjJ cyI jlh jjK cyI jli jk3 ji1 jiJ jjb ji0 jj9 ji0 cyI jlg jjb cyI jlp ji1 cyI jkK jiJ cyI jkj)) hP hD [0, 1] [2, 3, 4, 5, 6, 7, 8, 9] [8, 9, 0, 1, 2, 3, 4, 5, 6, 7] hCc rfl (by decide +kernel) (by decide +kernel) (by decide +kernel) rfl hk1 hFc hP1 hD1
    generalize H1 = H at hP hS ⊢
    refine lv_iload_n hx hb (qaa qek 7 rfl) rfl (lv_at hl 2 rfl) ?_
    refine lv_icmp_eq (tgt := 42) hx hb (qaa qek 8 rfl) (by decide) (fun c4 => ?_) (fun c4 => ?_)
    · have hw := hw.1 c4
      refine lv_iconst (v := 0) hx hb (qaa qgl 6 rfl) (by decide) ?_
      exact ((W.zret (v := 0) hx hb hr rfl (fun t ht hW => ⟨⟨0, (jlg, jlp), rfl, hw, by rw [ht]; exact hP, va_K.moved hW.alike hK, hD⟩, hS.F ht⟩) hS.2.2 (qaa qgl 7 rfl)))
    · have hw := hw.2 c4
      refine lv_aload_n hx hb (qaa qek 9 rfl) rfl (lv_at hl 0 rfl) ?_
      refine va_get (D := (dC, dI)) (ci := 1) (v := .ref jfB) (C := RX1) (T := TX1) (N := 4) hx hb hts qahg hown hK hP 0 rfl rfl 2 (by decide) (hts _ qaaE) (fun _ h9 => h9) rfl (qaa qek 10 rfl) ?_
      refine lv_aload_n hx hb (qaa qek 11 rfl) rfl (lv_at hl 0 rfl) ?_
      refine lv_iload_n hx hb (qaa qek 12 rfl) rfl (lv_at hl 1 rfl) ?_
      obtain ⟨hCc, hPc, hDc, hFc⟩ := qac (ws' := (qDB a0 jch jcD jfB jk3 jch cyI jdE)) hP hD hS hA [0, 1] (by decide +kernel) rfl
      refine va_calli (va_runV (As := [.int p1]) (rest := [.ref jfB]) ⟨hx, hb, hml, hown, hts⟩ (qvw l dC dI cyB cyI cyJ cyP a0 jch H.size (jcD) (.ref jfB) (.ref jk3) jdE p1 hw) (cwV 1 hts gX1_couldLeap_X1_sits rfl rfl rfl (by decide +kernel) ⟨nbq rfl, nbq rfl⟩) ⟨qab, va_recv (q := (RX1, TX1, 4)) hK hPc (ci := 1) (q0 := 0) rfl rfl, qae hPc hK hDc hNw⟩ rfl rfl hl.1 rfl (lv_room (nbq rfl)) (qaa qek 13 rfl) ⟨nbq rfl, nbq rfl⟩) hS (fun q _ h => hFc q h) hFc (fun r5 u t H1 locs ht hvm hw hB hz1 hk1 hS => ?_)
      obtain ⟨hP1, hK1, hD1⟩ := hB
      rw [ht] at hP1
      obtain ⟨hP, hD⟩ := qad (wr := (qaYd jfB jjJ jjK jgk jgl jgm jgz jfV jgn jgO jc6 jfW jiB jjJ cyI jlh jjK cyI jli jk3 ji1 jiJ jjb ji0 jj9 ji0 cyI jlg jjb cyI jlp ji1 cyI jkK jiJ cyI jkj)) (w1 := (qDB a0 jch jcD jfB jk3 jch cyI jdE)) (wn := (qMi a0 jch jcD jfB jk3 jch cyI jdE jfB jjJ jjK jgk jgl jgm jgz jfV jgn jgO jc6 jfW jiB jjJ cyI jlh jjK cyI jli jk3 ji1 jiJ jjb ji0 jj9 ji0 cyI jlg jjb cyI jlp ji1 cyI jkK jiJ cyI jkj)) hP hD [0, 1] [2, 3, 4, 5, 6, 7, 8, 9] [8, 9, 0, 1, 2, 3, 4, 5, 6, 7] hCc rfl (by decide +kernel) (by decide +kernel) (by decide +kernel) rfl hk1 hFc hP1 hD1
      generalize H1 = H at hP hS ⊢
      refine lv_iload_n hx hb (qaa qek 14 rfl) rfl (lv_at hl 2 rfl) ?_
      obtain ⟨hCc, hPc, hDc, hFc⟩ := qac (ws' := (qa45 jfB jjJ jjK jgk jgl jgm jgz jfV jgn jgO jc6 jfW jiB jjJ cyI jlh jjK cyI jli)) hP hD hS hA [2, 3, 4] (by decide +kernel) rfl
      refine va_calli (va_runV (As := [.int r5, .int p2]) (rest := []) ⟨hx, hb, hml, hown, hts⟩ (qBF l dC dI cyB cyI cyJ cyP jfB jjJ jjK H.size (jgk) (jgl) (jgm) (jgz) (jfV) (jgn) (jgO) (.int jc6) (jfW) (jiB) jlh jli r5 p2 hw) (cwV 2 hts gX1_couldLeap_X2_apart rfl rfl rfl (by decide +kernel) ⟨nbq rfl, nbq rfl⟩) ⟨qab, va_recv (q := (RX2, TX2, 12)) hK hPc (ci := 2) (q0 := 0) rfl rfl, qae hPc hK hDc hNw⟩ rfl rfl hl.1 rfl (lv_room (nbq rfl)) (qaa qek 15 rfl) ⟨nbq rfl, nbq rfl⟩) hS (fun q _ h => hFc q h) hFc (fun r6 u t H1 locs ht hvm hw hB hz1 hk1 hS => ?_)
      obtain ⟨hP1, hK1, hD1⟩ := hB
      rw [ht] at hP1
      obtain ⟨hP, hD⟩ := qad (wr := [(a0, .inr (1, [.ref jch, jcD, .ref jfB, .ref jk3])), (jch, .inl (cyI, 64, .inl jdE)), (jk3, .inr (4, [.ref ji1, .ref jiJ, .ref jjb, .ref ji0, .int jj9])), (ji0, .inl (cyI, 8, .inl jlg)), (jjb, .inl (cyI, 150, .inl jlp)), (ji1, .inl (cyI, 150, .inl jkK)), (jiJ, .inl (cyI, 150, .inl jkj))]) (w1 := (qa45 jfB jjJ jjK jgk jgl jgm jgz jfV jgn jgO jc6 jfW jiB jjJ cyI jlh jjK cyI jli)) (wn := (qMi a0 jch jcD jfB jk3 jch cyI jdE jfB jjJ jjK jgk jgl jgm jgz jfV jgn jgO jc6 jfW jiB jjJ cyI jlh jjK cyI jli jk3 ji1 jiJ jjb ji0 jj9 ji0 cyI jlg jjb cyI jlp ji1 cyI jkK jiJ cyI jkj)) hP hD [2, 3, 4] [0, 1, 5, 6, 7, 8, 9] [0, 1, 7, 8, 9, 2, 3, 4, 5, 6] hCc rfl (by decide +kernel) (by decide +kernel) (by decide +kernel) rfl hk1 hFc hP1 hD1
      generalize H1 = H at hP hS ⊢
      refine lv_aload_n hx hb (qaa qgl 0 rfl) rfl (lv_at hl 0 rfl) ?_
      refine lv_iload_n hx hb (qaa qgl 1 rfl) rfl (lv_at hl 1 rfl) ?_
      obtain ⟨hCc, hPc, hDc, hFc⟩ := qac (ws' := (qa8i a0 jch jcD jfB jk3 jch cyI jdE jfB jjJ jjK jgk jgl jgm jgz jfV jgn jgO jc6 jfW jiB jk3 ji1 jiJ jjb ji0 jj9 ji0 cyI jlg jjb cyI jlp ji1 cyI jkK jiJ cyI jkj)) hP hD hS hA [0, 1, 2, 5, 6, 7, 8, 9] (by decide +kernel) rfl
      refine va_calli (va_runV (As := [.int p1]) (rest := [.int r6]) ⟨hx, hb, hml, hown, hts⟩ (qXY l dC dI cyB cyI cyJ cyP a0 jch jfB jk3 ji0 jjb ji1 jiJ H.size (jcD) (.ref jjJ) (.ref jjK) (jgk) (jgl) (jgm) (jgz) (jfV) (jgn) (jgO) (jfW) (jiB) jdE jc6 jj9 jkK jkj jlg jlp p1 hw) (cwV 1 hts gX1_couldLeap_X1_reach rfl rfl rfl (by decide +kernel) ⟨nbq rfl, nbq rfl⟩) ⟨qab, va_recv (q := (RX1, TX1, 4)) hK hPc (ci := 1) (q0 := 0) rfl rfl, qae hPc hK hDc hNw⟩ rfl rfl hl.1 rfl (lv_room (nbq rfl)) (qaa qgl 2 rfl) ⟨nbq rfl, nbq rfl⟩) hS (fun q _ h => hFc q h) hFc (fun r9 u t H1 locs ht hvm hw hB hz1 hk1 hS => ?_)
      obtain ⟨f7, f8⟩ := u
      obtain ⟨hP1, hK1, hD1⟩ := hB
      rw [ht] at hP1
      obtain ⟨hP, hD⟩ := qad (wr := [(jjJ, .inl (cyI, 8, .inl jlh)), (jjK, .inl (cyI, 8, .inl jli))]) (w1 := (qa8i a0 jch jcD jfB jk3 jch cyI jdE jfB jjJ jjK jgk jgl jgm jgz jfV jgn jgO jc6 jfW jiB jk3 ji1 jiJ jjb ji0 jj9 ji0 cyI f7 jjb cyI f8 ji1 cyI jkK jiJ cyI jkj)) (wn := (qMi a0 jch jcD jfB jk3 jch cyI jdE jfB jjJ jjK jgk jgl jgm jgz jfV jgn jgO jc6 jfW jiB jjJ cyI jlh jjK cyI jli jk3 ji1 jiJ jjb ji0 jj9 ji0 cyI f7 jjb cyI f8 ji1 cyI jkK jiJ cyI jkj)) hP hD [0, 1, 2, 5, 6, 7, 8, 9] [3, 4] [2, 3, 4, 0, 1, 5, 6, 7, 8, 9] hCc rfl (by decide +kernel) (by decide +kernel) (by decide +kernel) rfl hk1 hFc hP1 hD1
      generalize H1 = H at hP hS ⊢
      refine lv_icmp_gt (tgt := 42) hx hb (qaa qgl 3 rfl) (by decide) (fun c10 => ?_) (fun c10 => ?_)
      · have hw := hw.1 c10
        refine lv_iconst (v := 0) hx hb (qaa qgl 6 rfl) (by decide) ?_
        exact ((W.zret (v := 0) hx hb hr rfl (fun t ht hW => ⟨⟨0, (f7, f8), rfl, hw, by rw [ht]; exact hP, va_K.moved hW.alike hK, hD⟩, hS.F ht⟩) hS.2.2 (qaa qgl 7 rfl)))
      · have hw := hw.2 c10
        refine lv_iconst (v := 1) hx hb (qaa qgl 4 rfl) (by decide) ?_
        refine lv_goto (tgt := 43) hx hb (qaa qgl 5 rfl) (by decide) ?_
        exact ((W.zret (v := 1) hx hb hr rfl (fun t ht hW => ⟨⟨1, (f7, f8), rfl, hw, by rw [ht]; exact hP, va_K.moved hW.alike hK, hD⟩, hS.F ht⟩) hS.2.2 (qaa qgl 7 rfl)))
theorem qaJW : ∀ w ∈ u_ws RX10 TX10 19, w ∈ wsX10_can := uiM qLM qyN (by decide +kernel)
theorem qaJ4 : (.fieldLink RX10 58 "MarchHares" "now" "LMarchHares$Days;" : Cond) ∈ wsX10_can := qLM 79 (by decide +kernel)
set_option maxHeartbeats 4000000 in
set_option maxRecDepth 100000 in
theorem qa2H (l : Launch) (dC : Nat → ClassId) (dI : Nat → Nat → Nat) (cyB cyI cyJ cyP : ClassId) (a0 jaR jaT jbb jbs jbt jb6 jcc jcl jbW jbL sz : Nat) (jaK ja1 jcp jbc jbV ja3 jbH jbO jaq jac jbI jbl jbn jba jaa jdD jbo jbp jbk jbj jbf jbq jbi jcd jbr : Value) (jbE jbm : Int32) (jbQ jci jcj : NI) (jdh : Int32) (jdN jdi : NI) (jdu : Int32) (jfl jfM : NI) (p1 p2 : Int32) {E : String → Int32 → NI → NI → Prop} {Q : Int32 → Int32 → NI → NI → Prop} (hw : qamw jbE jbm jbQ jci jcj jdh jdN jdi jdu jfl jfM p1 p2 E Q) : vx_Met l yX10_can wsX10_can ({ frames := 7, cells := 2, slots := 12, locals := 141 }) (va_Pc [.ref a0, .int p1, .int p2] (cPx l (dC, dI) (kT cyB cyI cyJ cyP) (qFC a0 jaK jaR ja1 jcp jbc jbV ja3 jbH jaT jbO jaq jac jbI jbl jbn jba jaa jdu jdD jaR jbs jbt jbo jbp jbk jbj jbf jbq jbE jbm jbi jcd jaT jbb jbr jaR jb6 jbb cyI jbQ jbs cyI jci jbt cyI jcj jb6 jbW jbL jcl jcc jdh jcc cyI jfl jcl cyI jfM jbW cyI jdN jbL cyI jdi) sz)) (va_Qi (fun (r : Int32) (u : Int32 × NI × NI) => Q r u.1 u.2.1 u.2.2) (cB (dC, dI) (kT cyB cyI cyJ cyP) (va_A (qFC a0 jaK jaR ja1 jcp jbc jbV ja3 jbH jaT jbO jaq jac jbI jbl jbn jba jaa jdu jdD jaR jbs jbt jbo jbp jbk jbj jbf jbq jbE jbm jbi jcd jaT jbb jbr jaR jb6 jbb cyI jbQ jbs cyI jci jbt cyI jcj jb6 jbW jbL jcl jcc jdh jcc cyI jfl jcl cyI jfM jbW cyI jdN jbL cyI jdi) sz) (fun u : Int32 × NI × NI => ((qFC a0 jaK jaR ja1 jcp jbc jbV ja3 jbH jaT jbO jaq jac jbI jbl jbn jba jaa u.1 jdD jaR jbs jbt jbo jbp jbk jbj jbf jbq jbE jbm jbi jcd jaT jbb jbr jaR jb6 jbb cyI jbQ jbs cyI jci jbt cyI jcj jb6 jbW jbL jcl jcc jdh jcc cyI u.2.1 jcl cyI u.2.2 jbW cyI jdN jbL cyI jdi) : va_W))) (va_A (qFC a0 jaK jaR ja1 jcp jbc jbV ja3 jbH jaT jbO jaq jac jbI jbl jbn jba jaa jdu jdD jaR jbs jbt jbo jbp jbk jbj jbf jbq jbE jbm jbi jcd jaT jbb jbr jaR jb6 jbb cyI jbQ jbs cyI jci jbt cyI jcj jb6 jbW jbL jcl jcc jdh jcc cyI jfl jcl cyI jfM jbW cyI jdN jbL cyI jdi) sz)) (vx_X (fun _ => True) (fun (en : String) (u : Int32 × NI × NI) (t : State) => E en u.1 u.2.1 u.2.2 ∧ cB (dC, dI) (kT cyB cyI cyJ cyP) (va_A (qFC a0 jaK jaR ja1 jcp jbc jbV ja3 jbH jaT jbO jaq jac jbI jbl jbn jba jaa jdu jdD jaR jbs jbt jbo jbp jbk jbj jbf jbq jbE jbm jbi jcd jaT jbb jbr jaR jb6 jbb cyI jbQ jbs cyI jci jbt cyI jcj jb6 jbW jbL jcl jcc jdh jcc cyI jfl jcl cyI jfM jbW cyI jdN jbL cyI jdi) sz) (fun u : Int32 × NI × NI => ((qFC a0 jaK jaR ja1 jcp jbc jbV ja3 jbH jaT jbO jaq jac jbI jbl jbn jba jaa u.1 jdD jaR jbs jbt jbo jbp jbk jbj jbf jbq jbE jbm jbi jcd jaT jbb jbr jaR jb6 jbb cyI jbQ jbs cyI jci jbt cyI jcj jb6 jbW jbL jcl jcc jdh jcc cyI u.2.1 jcl cyI u.2.2 jbW cyI jdN jbL cyI jdi) : va_W)) u t) (va_A (qFC a0 jaK jaR ja1 jcp jbc jbV ja3 jbH jaT jbO jaq jac jbI jbl jbn jba jaa jdu jdD jaR jbs jbt jbo jbp jbk jbj jbf jbq jbE jbm jbi jcd jaT jbb jbr jaR jb6 jbb cyI jbQ jbs cyI jci jbt cyI jcj jb6 jbW jbL jcl jcc jdh jcc cyI jfl jcl cyI jfM jbW cyI jdN jbL cyI jdi) sz)) 2 12 (va_A (qFC a0 jaK jaR ja1 jcp jbc jbV ja3 jbH jaT jbO jaq jac jbI jbl jbn jba jaa jdu jdD jaR jbs jbt jbo jbp jbk jbj jbf jbq jbE jbm jbi jcd jaT jbb jbr jaR jb6 jbb cyI jbQ jbs cyI jci jbt cyI jcj jb6 jbW jbL jcl jcc jdh jcc cyI jfl jcl cyI jfM jbW cyI jdN jbL cyI jdi) sz) := by
  refine vx_ofW (cc := cX10_can) (maxL := 3) (ret := (some .boolean)) (by decide) rfl ?_
  intro p e s m args below meth c s₁ B hml hnt hv
  obtain ⟨rfl, hsz, hP, hK, hD0, hNw, hXl, hXu, hXn, hXt⟩ := hv
  have hx := B.exec
  have hb := B.bytes
  have hr := B.returns
  have hts := atoms_spec (ws := wsX10_can) B.pre
  have hown : s.vm.findClass RX10 = some m.cls := findClass_of_methodNamed B.named
  have hlocks := B.notSynchronized
  subst hsz
  have hD := hD0.self (sz := s.heap.size)
  generalize hAe : va_A (qFC a0 jaK jaR ja1 jcp jbc jbV ja3 jbH jaT jbO jaq jac jbI jbl jbn jba jaa jdu jdD jaR jbs jbt jbo jbp jbk jbj jbf jbq jbE jbm jbi jcd jaT jbb jbr jaR jb6 jbb cyI jbQ jbs cyI jci jbt cyI jcj jb6 jbW jbL jcl jcc jdh jcc cyI jfl jcl cyI jfM jbW cyI jdN jbL cyI jdi) s.heap.size = A at hD hXu hXn ⊢
  have hA : ∀ q : Nat, s.heap.size ≤ q → A q := fun q h => by rw [← hAe]; exact Or.inr h
  have hS : va_S A s.heap s.heap [] := va_S.rf
  have hP : va_P (dC, dI) vwCl (qFC a0 jaK jaR ja1 jcp jbc jbV ja3 jbH jaT jbO jaq jac jbI jbl jbn jba jaa jdu jdD jaR jbs jbt jbo jbp jbk jbj jbf jbq jbE jbm jbi jcd jaT jbb jbr jaR jb6 jbb cyI jbQ jbs cyI jci jbt cyI jcj jb6 jbW jbL jcl jcc jdh jcc cyI jfl jcl cyI jfM jbW cyI jdN jbL cyI jdi) s.heap := hP
  have hl := lv_entry ([.ref a0, .int p1, .int p2]) (n := 3) (nbq rfl)
  rw [lg_entry_eq]
  generalize (lg_sl ([.ref a0, .int p1, .int p2]) ++ List.replicate (3 - (lg_sl ([.ref a0, .int p1, .int p2])).length) Slot.unset).toArray = ls at hl ⊢
  have hl : lv_has ls 3 [(0, .ref a0), (1, .int p1), (2, .int p2)] := hl
  have hY : cfY l s A := ⟨hXl, hXu, hXn, hXt⟩
  have hXs : cfX l s c A := ⟨hnt, hY⟩
  have C0 : cfx p s m _ meth c cX10_can (some .boolean) wsX10_can RX10 3 A (dC, dI) (kT cyB cyI cyJ cyP) ∧ cfX l s c A := ⟨⟨hx, hb, hr, hts, hown, hlocks, hml, hA, hK, hNw⟩, hXs⟩
  clear hAe
  obtain ⟨H, hH⟩ : ∃ H, H = s.heap := ⟨_, rfl⟩
  rw [← hH] at hP ⊢
  have hS : va_S A s.heap H [] := by rw [hH]; exact va_S.rf
  have hS := hS
  refine lv_aload_n hx hb (qaa qsG 0 rfl) rfl (lv_at hl 0 rfl) ?_
  refine lv_iload_n hx hb (qaa qsG 1 rfl) rfl (lv_at hl 1 rfl) ?_
  obtain ⟨hCc, hPc, hDc, hFc⟩ := qac (ws' := (qakf a0 jaK jaR ja1 jcp jbc jbV ja3 jbH jaT jbO jaq jac jbI jbl jbn jba jaa jdu jdD jaR jbs jbt jbo jbp jbk jbj jbf jbq jbE jbm jbi jcd)) hP hD hS hA [0, 1] (by decide +kernel) rfl
  refine vx_callv (vx_runV (As := [.int p1]) (rest := []) ⟨hx, hb, hml, hown, hts⟩ (qqu l dC dI cyB cyI cyJ cyP a0 jaR H.size (jaK) (ja1) (jcp) (jbc) (jbV) (ja3) (jbH) (.ref jaT) (jbO) (jaq) (jac) (jbI) (jbl) (jbn) (jba) (jaa) (jdD) (.ref jbs) (.ref jbt) (jbo) (jbp) (jbk) (jbj) (jbf) (jbq) (.int jbE) (jbi) (jcd) jbm jdu p1 hw) (cwV 1 hts gX10_can_X10_needHare rfl rfl rfl (by decide +kernel) ⟨nbq rfl, nbq rfl⟩) ⟨qav, va_recv (q := (RX10, TX10, 19)) hK hPc (ci := 10) (q0 := 0) rfl rfl, qbl hPc hK hDc hNw hY hS hFc⟩ rfl rfl hl.1 rfl (lv_room (nbq rfl)) (qaa qsG 2 rfl) ⟨nbq rfl, nbq rfl⟩) hS (fun q _ h => hFc q h) hFc (fun q _ h => hFc q h) (fun en ce q9 u t H1 locs ht hvm hpx hB hz1 hk1 hS hc9 hv9 hcl9 => ?_) (fun u t H1 locs ht hvm hw hB hz1 hk1 hS => ?_)
  · obtain ⟨x1, rfl⟩ : ∃ z, z = u := ⟨_, rfl⟩
    obtain ⟨hw, hP1, hK1, hD1⟩ := hB
    rw [ht] at hP1
    obtain ⟨hP, hD⟩ := qad (wr := (qaSD jaT jbb jbr jaR jb6 jbb cyI jbQ jbs cyI jci jbt cyI jcj jb6 jbW jbL jcl jcc jdh jcc cyI jfl jcl cyI jfM jbW cyI jdN jbL cyI jdi)) (w1 := (qakf a0 jaK jaR ja1 jcp jbc jbV ja3 jbH jaT jbO jaq jac jbI jbl jbn jba jaa x1 jdD jaR jbs jbt jbo jbp jbk jbj jbf jbq jbE jbm jbi jcd)) (wn := (qFC a0 jaK jaR ja1 jcp jbc jbV ja3 jbH jaT jbO jaq jac jbI jbl jbn jba jaa x1 jdD jaR jbs jbt jbo jbp jbk jbj jbf jbq jbE jbm jbi jcd jaT jbb jbr jaR jb6 jbb cyI jbQ jbs cyI jci jbt cyI jcj jb6 jbW jbL jcl jcc jdh jcc cyI jfl jcl cyI jfM jbW cyI jdN jbL cyI jdi)) hP hD [0, 1] [2, 3, 4, 5, 6, 7, 8, 9, 10] [9, 10, 0, 1, 2, 3, 4, 5, 6, 7, 8] hCc rfl (by decide +kernel) (by decide +kernel) (by decide +kernel) rfl hk1 hFc hP1 hD1
    generalize H1 = H at hP hS hc9 ⊢
    exact vx_out (fun x hx9 => (hXs.1 x hx9).elim) hlocks hc9 hv9 hcl9 (fun t2 ht2 hal2 => ⟨(x1, jfl, jfM), trivial, ⟨hw, by rw [ht2]; exact hP, va_K.moved hal2 hK, hD⟩, hS.F ht2⟩) hS.2.2 (nbq rfl) (nbq rfl)
  obtain ⟨x1, rfl⟩ : ∃ z, z = u := ⟨_, rfl⟩
  obtain ⟨hP1, hK1, hD1⟩ := hB
  rw [ht] at hP1
  obtain ⟨hP, hD⟩ := qad (wr := (qaSD jaT jbb jbr jaR jb6 jbb cyI jbQ jbs cyI jci jbt cyI jcj jb6 jbW jbL jcl jcc jdh jcc cyI jfl jcl cyI jfM jbW cyI jdN jbL cyI jdi)) (w1 := (qakf a0 jaK jaR ja1 jcp jbc jbV ja3 jbH jaT jbO jaq jac jbI jbl jbn jba jaa x1 jdD jaR jbs jbt jbo jbp jbk jbj jbf jbq jbE jbm jbi jcd)) (wn := (qFC a0 jaK jaR ja1 jcp jbc jbV ja3 jbH jaT jbO jaq jac jbI jbl jbn jba jaa x1 jdD jaR jbs jbt jbo jbp jbk jbj jbf jbq jbE jbm jbi jcd jaT jbb jbr jaR jb6 jbb cyI jbQ jbs cyI jci jbt cyI jcj jb6 jbW jbL jcl jcc jdh jcc cyI jfl jcl cyI jfM jbW cyI jdN jbL cyI jdi)) hP hD [0, 1] [2, 3, 4, 5, 6, 7, 8, 9, 10] [9, 10, 0, 1, 2, 3, 4, 5, 6, 7, 8] hCc rfl (by decide +kernel) (by decide +kernel) (by decide +kernel) rfl hk1 hFc hP1 hD1
  generalize H1 = H at hP hS ⊢
  refine lv_aload_n hx hb (qaa qsG 3 rfl) rfl (lv_at hl 0 rfl) ?_
  refine lv_iload_n hx hb (qaa qsG 4 rfl) rfl (lv_at hl 2 rfl) ?_
  obtain ⟨hCc, hPc, hDc, hFc⟩ := qac (ws' := (qakf a0 jaK jaR ja1 jcp jbc jbV ja3 jbH jaT jbO jaq jac jbI jbl jbn jba jaa x1 jdD jaR jbs jbt jbo jbp jbk jbj jbf jbq jbE jbm jbi jcd)) hP hD hS hA [0, 1] (by decide +kernel) rfl
  refine vx_callv (vx_runV (As := [.int p2]) (rest := []) ⟨hx, hb, hml, hown, hts⟩ (qyj l dC dI cyB cyI cyJ cyP a0 jaR H.size (jaK) (ja1) (jcp) (jbc) (jbV) (ja3) (jbH) (.ref jaT) (jbO) (jaq) (jac) (jbI) (jbl) (jbn) (jba) (jaa) (jdD) (.ref jbs) (.ref jbt) (jbo) (jbp) (jbk) (jbj) (jbf) (jbq) (.int jbm) (jbi) (jcd) jbE x1 p2 hw) (cwV 1 hts gX10_can_X10_needForm rfl rfl rfl (by decide +kernel) ⟨nbq rfl, nbq rfl⟩) ⟨qav, va_recv (q := (RX10, TX10, 19)) hK hPc (ci := 10) (q0 := 0) rfl rfl, qbl hPc hK hDc hNw hY hS hFc⟩ rfl rfl hl.1 rfl (lv_room (nbq rfl)) (qaa qsG 5 rfl) ⟨nbq rfl, nbq rfl⟩) hS (fun q _ h => hFc q h) hFc (fun q _ h => hFc q h) (fun en ce q9 u t H1 locs ht hvm hpx hB hz1 hk1 hS hc9 hv9 hcl9 => ?_) (fun u t H1 locs ht hvm hw hB hz1 hk1 hS => ?_)
  · obtain ⟨x2, rfl⟩ : ∃ z, z = u := ⟨_, rfl⟩
    obtain ⟨hw, hP1, hK1, hD1⟩ := hB
    rw [ht] at hP1
    obtain ⟨hP, hD⟩ := qad (wr := (qaSD jaT jbb jbr jaR jb6 jbb cyI jbQ jbs cyI jci jbt cyI jcj jb6 jbW jbL jcl jcc jdh jcc cyI jfl jcl cyI jfM jbW cyI jdN jbL cyI jdi)) (w1 := (qakf a0 jaK jaR ja1 jcp jbc jbV ja3 jbH jaT jbO jaq jac jbI jbl jbn jba jaa x2 jdD jaR jbs jbt jbo jbp jbk jbj jbf jbq jbE jbm jbi jcd)) (wn := (qFC a0 jaK jaR ja1 jcp jbc jbV ja3 jbH jaT jbO jaq jac jbI jbl jbn jba jaa x2 jdD jaR jbs jbt jbo jbp jbk jbj jbf jbq jbE jbm jbi jcd jaT jbb jbr jaR jb6 jbb cyI jbQ jbs cyI jci jbt cyI jcj jb6 jbW jbL jcl jcc jdh jcc cyI jfl jcl cyI jfM jbW cyI jdN jbL cyI jdi)) hP hD [0, 1] [2, 3, 4, 5, 6, 7, 8, 9, 10] [9, 10, 0, 1, 2, 3, 4, 5, 6, 7, 8] hCc rfl (by decide +kernel) (by decide +kernel) (by decide +kernel) rfl hk1 hFc hP1 hD1
    generalize H1 = H at hP hS hc9 ⊢
    exact vx_out (fun x hx9 => (hXs.1 x hx9).elim) hlocks hc9 hv9 hcl9 (fun t2 ht2 hal2 => ⟨(x2, jfl, jfM), trivial, ⟨hw, by rw [ht2]; exact hP, va_K.moved hal2 hK, hD⟩, hS.F ht2⟩) hS.2.2 (nbq rfl) (nbq rfl)
  obtain ⟨x2, rfl⟩ : ∃ z, z = u := ⟨_, rfl⟩
  obtain ⟨hP1, hK1, hD1⟩ := hB
  rw [ht] at hP1
  obtain ⟨hP, hD⟩ := qad (wr := (qaSD jaT jbb jbr jaR jb6 jbb cyI jbQ jbs cyI jci jbt cyI jcj jb6 jbW jbL jcl jcc jdh jcc cyI jfl jcl cyI jfM jbW cyI jdN jbL cyI jdi)) (w1 := (qakf a0 jaK jaR ja1 jcp jbc jbV ja3 jbH jaT jbO jaq jac jbI jbl jbn jba jaa x2 jdD jaR jbs jbt jbo jbp jbk jbj jbf jbq jbE jbm jbi jcd)) (wn := (qFC a0 jaK jaR ja1 jcp jbc jbV ja3 jbH jaT jbO jaq jac jbI jbl jbn jba jaa x2 jdD jaR jbs jbt jbo jbp jbk jbj jbf jbq jbE jbm jbi jcd jaT jbb jbr jaR jb6 jbb cyI jbQ jbs cyI jci jbt cyI jcj jb6 jbW jbL jcl jcc jdh jcc cyI jfl jcl cyI jfM jbW cyI jdN jbL cyI jdi)) hP hD [0, 1] [2, 3, 4, 5, 6, 7, 8, 9, 10] [9, 10, 0, 1, 2, 3, 4, 5, 6, 7, 8] hCc rfl (by decide +kernel) (by decide +kernel) (by decide +kernel) rfl hk1 hFc hP1 hD1
  generalize H1 = H at hP hS ⊢
  refine lv_aload_n hx hb (qaa qsG 6 rfl) rfl (lv_at hl 0 rfl) ?_
  refine va_get (D := (dC, dI)) (ci := 10) (v := .ref jaT) (C := RX10) (T := TX10) (N := 19) hx hb hts qaJW hown hK hP 0 rfl rfl 8 (by decide) (hts _ qaJ4) (fun _ h9 => h9) rfl (qaa qsG 7 rfl) ?_
  refine lv_iload_n hx hb (qaa qsG 8 rfl) rfl (lv_at hl 1 rfl) ?_
  refine lv_iload_n hx hb (qaa qsG 9 rfl) rfl (lv_at hl 2 rfl) ?_
  obtain ⟨hCc, hPc, hDc, hFc⟩ := qac (ws' := (qbaa jaT jbb jbr jaR jb6 jbb cyI jbQ jaR jbs jbt jbo jbp jbk jbj jbf jbq jbE jbm jbi jcd jbs cyI jci jbt cyI jcj jb6 jbW jbL jcl jcc jdh jcc cyI jfl jcl cyI jfM jbW cyI jdN jbL cyI jdi)) hP hD hS hA [2, 3, 1, 4, 5, 6, 7, 8, 9, 10] (by decide +kernel) rfl
  refine va_calli (va_runV (As := [.int p1, .int p2]) (rest := []) ⟨hx, hb, hml, hown, hts⟩ (qRq l dC dI cyB cyI cyJ cyP jaT jbb jaR jbs jbt jb6 jcc jcl jbW jbL H.size (jbr) (jbo) (jbp) (jbk) (jbj) (jbf) (jbq) (.int jbE) (jbi) (jcd) jbQ jbm jci jcj jdh jdN jdi jfl jfM p1 p2 hw) (cwV 2 hts gX10_can_X1_couldLeap rfl rfl rfl (by decide +kernel) ⟨nbq rfl, nbq rfl⟩) ⟨qab, va_recv (q := (RX1, TX1, 4)) hK hPc (ci := 1) (q0 := 0) rfl rfl, qae hPc hK hDc hNw⟩ rfl rfl hl.1 rfl (lv_room (nbq rfl)) (qaa qsG 10 rfl) ⟨nbq rfl, nbq rfl⟩) hS (fun q _ h => hFc q h) hFc (fun r5 u t H1 locs ht hvm hw hB hz1 hk1 hS => ?_)
  obtain ⟨f3, f4⟩ := u
  obtain ⟨hP1, hK1, hD1⟩ := hB
  rw [ht] at hP1
  obtain ⟨hP, hD⟩ := qad (wr := (qbdv a0 jaK jaR ja1 jcp jbc jbV ja3 jbH jaT jbO jaq jac jbI jbl jbn jba jaa x2 jdD)) (w1 := (qbaa jaT jbb jbr jaR jb6 jbb cyI jbQ jaR jbs jbt jbo jbp jbk jbj jbf jbq jbE jbm jbi jcd jbs cyI jci jbt cyI jcj jb6 jbW jbL jcl jcc jdh jcc cyI f3 jcl cyI f4 jbW cyI jdN jbL cyI jdi)) (wn := (qFC a0 jaK jaR ja1 jcp jbc jbV ja3 jbH jaT jbO jaq jac jbI jbl jbn jba jaa x2 jdD jaR jbs jbt jbo jbp jbk jbj jbf jbq jbE jbm jbi jcd jaT jbb jbr jaR jb6 jbb cyI jbQ jbs cyI jci jbt cyI jcj jb6 jbW jbL jcl jcc jdh jcc cyI f3 jcl cyI f4 jbW cyI jdN jbL cyI jdi)) hP hD [2, 3, 1, 4, 5, 6, 7, 8, 9, 10] [0] [0, 3, 1, 2, 4, 5, 6, 7, 8, 9, 10] hCc rfl (by decide +kernel) (by decide +kernel) (by decide +kernel) rfl hk1 hFc hP1 hD1
  generalize H1 = H at hP hS ⊢
  obtain ⟨hn9, hw⟩ := hw
  exact vx_ret (W.widen (k := 2) (n := 12) (nbq rfl) (nbq rfl) (W.zret (v := r5) hx hb hr hn9 (fun t ht hW => ⟨⟨r5, (x2, f3, f4), rfl, hw, by rw [ht]; exact hP, va_K.moved hW.alike hK, hD⟩, hS.F ht⟩) hS.2.2 (qaa qsG 11 rfl)))
theorem qaQG : (.classLink RL 31 "java/util/NoSuchElementException" : Cond) ∈ wsL_can := qaPm 2639 (by decide +kernel)
theorem qaZj : (.codeWith yL_can cL_can 5 (some .int) [(0, 17, 20, 31)] : Cond) ∈ wsL_can := qaPm 2944 (by decide +kernel)
set_option maxHeartbeats 4000000 in
set_option maxRecDepth 100000 in
theorem qbbE (l : Launch) (dC : Nat → ClassId) (dI : Nat → Nat → Nat) (cyB cyI cyJ cyP : ClassId) (a0 a3 jaR jaT jbb jbs jbt jb6 jcc jcl jbW jbL sz : Nat) (jaK ja1 jbc jbV ja3 jbH jbO jaq jac jbI jbl jbn jba jaa jdD jbo jbp jbk jbj jbf jbq jbi jcd jbr : Value) (n3 : Nat) (jbE jbm : Int32) (jbQ jci jcj : NI) (jdh : Int32) (jdN jdi : NI) (jdu : Int32) (jfl jfM : NI) (f3 : Nat → Int64) (p1 p2 : Int32) {Q : Int32 → Int32 → NI → NI → (Nat → Int64) → Prop} (hw : qa1m n3 jbE jbm jbQ jci jcj jdh jdN jdi jdu jfl jfM f3 p1 p2 Q) : Met l yL_can wsL_can ({ frames := 8, cells := 2, slots := 12, locals := 163 }) (va_Pc [.ref a0, .int p1, .int p2, .ref a3] (cPx l (dC, dI) (kT cyB cyI cyJ cyP) (qIE a0 jaK jaR ja1 jb6 jbc jbV ja3 jbH jaT jbO jaq jac jbI jbl jbn jba jaa jdu jdD jaR jbs jbt jbo jbp jbk jbj jbf jbq jbE jbm jbi jcd jaT jbb jbr jaR jb6 jbb cyI jbQ jbs cyI jci jbt cyI jcj jb6 jbW jbL jcl jcc jdh jcc cyI jfl jcl cyI jfM jbW cyI jdN jbL cyI jdi a3 cyJ n3 f3) sz)) (va_Qi (fun (r : Int32) (u : Int32 × NI × NI × (Nat → Int64)) => Q r u.1 u.2.1 u.2.2.1 u.2.2.2) (cB (dC, dI) (kT cyB cyI cyJ cyP) (va_A (qIE a0 jaK jaR ja1 jb6 jbc jbV ja3 jbH jaT jbO jaq jac jbI jbl jbn jba jaa jdu jdD jaR jbs jbt jbo jbp jbk jbj jbf jbq jbE jbm jbi jcd jaT jbb jbr jaR jb6 jbb cyI jbQ jbs cyI jci jbt cyI jcj jb6 jbW jbL jcl jcc jdh jcc cyI jfl jcl cyI jfM jbW cyI jdN jbL cyI jdi a3 cyJ n3 f3) sz) (fun u : Int32 × NI × NI × (Nat → Int64) => ((qIE a0 jaK jaR ja1 jb6 jbc jbV ja3 jbH jaT jbO jaq jac jbI jbl jbn jba jaa u.1 jdD jaR jbs jbt jbo jbp jbk jbj jbf jbq jbE jbm jbi jcd jaT jbb jbr jaR jb6 jbb cyI jbQ jbs cyI jci jbt cyI jcj jb6 jbW jbL jcl jcc jdh jcc cyI u.2.1 jcl cyI u.2.2.1 jbW cyI jdN jbL cyI jdi a3 cyJ n3 u.2.2.2) : va_W))) (va_A (qIE a0 jaK jaR ja1 jb6 jbc jbV ja3 jbH jaT jbO jaq jac jbI jbl jbn jba jaa jdu jdD jaR jbs jbt jbo jbp jbk jbj jbf jbq jbE jbm jbi jcd jaT jbb jbr jaR jb6 jbb cyI jbQ jbs cyI jci jbt cyI jcj jb6 jbW jbL jcl jcc jdh jcc cyI jfl jcl cyI jfM jbW cyI jdN jbL cyI jdi a3 cyJ n3 f3) sz)) 2 12 (va_A (qIE a0 jaK jaR ja1 jb6 jbc jbV ja3 jbH jaT jbO jaq jac jbI jbl jbn jba jaa jdu jdD jaR jbs jbt jbo jbp jbk jbj jbf jbq jbE jbm jbi jcd jaT jbb jbr jaR jb6 jbb cyI jbQ jbs cyI jci jbt cyI jcj jb6 jbW jbL jcl jcc jdh jcc cyI jfl jcl cyI jfM jbW cyI jdN jbL cyI jdi a3 cyJ n3 f3) sz) := by
  refine va_MetW (cc := cL_can) (maxL := 5) (ret := (some .int)) (by decide) rfl ?_
  intro p e s m args below meth c s₁ B hml hv
  obtain ⟨rfl, hsz, hP, hK, hD0, hNw, hXl, hXu, hXn, hXt⟩ := hv
  have hx := B.exec
  have hb := B.bytes
  have hr := B.returns
  have hts := atoms_spec (ws := wsL_can) B.pre
  have hown : s.vm.findClass RL = some m.cls := findClass_of_methodNamed B.named
  have hlocks := B.notSynchronized
  subst hsz
  have hD := hD0.self (sz := s.heap.size)
  generalize hAe : va_A (qIE a0 jaK jaR ja1 jb6 jbc jbV ja3 jbH jaT jbO jaq jac jbI jbl jbn jba jaa jdu jdD jaR jbs jbt jbo jbp jbk jbj jbf jbq jbE jbm jbi jcd jaT jbb jbr jaR jb6 jbb cyI jbQ jbs cyI jci jbt cyI jcj jb6 jbW jbL jcl jcc jdh jcc cyI jfl jcl cyI jfM jbW cyI jdN jbL cyI jdi a3 cyJ n3 f3) s.heap.size = A at hD hXu hXn ⊢
  have hA : ∀ q : Nat, s.heap.size ≤ q → A q := fun q h => by rw [← hAe]; exact Or.inr h
  have hS : va_S A s.heap s.heap [] := va_S.rf
  have hP : va_P (dC, dI) vwCl (qIE a0 jaK jaR ja1 jb6 jbc jbV ja3 jbH jaT jbO jaq jac jbI jbl jbn jba jaa jdu jdD jaR jbs jbt jbo jbp jbk jbj jbf jbq jbE jbm jbi jcd jaT jbb jbr jaR jb6 jbb cyI jbQ jbs cyI jci jbt cyI jcj jb6 jbW jbL jcl jcc jdh jcc cyI jfl jcl cyI jfM jbW cyI jdN jbL cyI jdi a3 cyJ n3 f3) s.heap := hP
  have hl := lv_entry ([.ref a0, .int p1, .int p2, .ref a3]) (n := 5) (nbq rfl)
  rw [lg_entry_eq]
  generalize (lg_sl ([.ref a0, .int p1, .int p2, .ref a3]) ++ List.replicate (5 - (lg_sl ([.ref a0, .int p1, .int p2, .ref a3])).length) Slot.unset).toArray = ls at hl ⊢
  have hl : lv_has ls 5 [(0, .ref a0), (1, .int p1), (2, .int p2), (3, .ref a3)] := hl
  have hY : cfY l s A := ⟨hXl, hXu, hXn, hXt⟩
  have hTb := vx_table (x := yL_can) B (hts _ qaZj)
  clear hAe
  obtain ⟨H, hH⟩ : ∃ H, H = s.heap := ⟨_, rfl⟩
  rw [← hH] at hP ⊢
  have hS : va_S A s.heap H [] := by rw [hH]; exact va_S.rf
  have hS := hS
  refine lv_aload_n hx hb (qaa qpM 0 rfl) rfl (lv_at hl 3 rfl) ?_
  refine lv_iconst (v := 0) hx hb (qaa qpM 1 rfl) (by decide) ?_
  refine lv_aload_n hx hb (qaa qpM 2 rfl) rfl (lv_at hl 0 rfl) ?_
  refine lv_iload_n hx hb (qaa qpM 3 rfl) rfl (lv_at hl 1 rfl) ?_
  refine lv_iload_n hx hb (qaa qpM 4 rfl) rfl (lv_at hl 2 rfl) ?_
  obtain ⟨hCc, hPc, hDc, hFc⟩ := qac (ws' := (qaXx a0 jaK jaR ja1 jb6 jbc jbV ja3 jbH jaT jbO jaq jac jbI jbl jbn jba jaa jdu jdD jaR jbs jbt jbo jbp jbk jbj jbf jbq jbE jbm jbi jcd jaT jbb jbr jaR jb6 jbb cyI jbQ jbs cyI jci jbt cyI jcj jb6 jbW jbL jcl jcc jdh jcc cyI jfl jcl cyI jfM jbW cyI jdN jbL cyI jdi)) hP hD hS hA [0, 1, 2, 3, 4, 5, 6, 7, 8, 9, 10] (by decide +kernel) rfl
  refine vx_calli (vx_runV (As := [.int p1, .int p2]) (rest := [.int 0, .ref a3]) ⟨hx, hb, hml, hown, hts⟩ (qa2H l dC dI cyB cyI cyJ cyP a0 jaR jaT jbb jbs jbt jb6 jcc jcl jbW jbL H.size (jaK) (ja1) (.ref jb6) (jbc) (jbV) (ja3) (jbH) (jbO) (jaq) (jac) (jbI) (jbl) (jbn) (jba) (jaa) (jdD) (jbo) (jbp) (jbk) (jbj) (jbf) (jbq) (jbi) (jcd) (jbr) jbE jbm jbQ jci jcj jdh jdN jdi jdu jfl jfM p1 p2 hw) (cwV 2 hts gL_can_X10_can rfl rfl rfl (by decide +kernel) ⟨nbq rfl, nbq rfl⟩) ⟨qav, va_recv (q := (RX10, TX10, 19)) hK hPc (ci := 10) (q0 := 0) rfl rfl, qbl hPc hK hDc hNw hY hS hFc⟩ rfl rfl hl.1 rfl (lv_room (nbq rfl)) (qaa qpM 5 rfl) ⟨nbq rfl, nbq rfl⟩) hS (fun q _ h => hFc q h) hFc (fun q _ h => hFc q h) (fun en ce qx9 u t H1 locs ht hvm hpx hB hz1 hk1 hS hc9 hv9 hcl9 => ?_) (fun r5 u t H1 locs ht hvm hw hB hz1 hk1 hS => ?_)
  · obtain ⟨x1, f2, f4⟩ := u
    obtain ⟨hw, hP1, hK1, hD1⟩ := hB
    rw [ht] at hP1
    obtain ⟨hP, hD⟩ := qad (wr := [(a3, .inl (cyJ, n3, .inr (.inl f3)))]) (w1 := (qaXx a0 jaK jaR ja1 jb6 jbc jbV ja3 jbH jaT jbO jaq jac jbI jbl jbn jba jaa x1 jdD jaR jbs jbt jbo jbp jbk jbj jbf jbq jbE jbm jbi jcd jaT jbb jbr jaR jb6 jbb cyI jbQ jbs cyI jci jbt cyI jcj jb6 jbW jbL jcl jcc jdh jcc cyI f2 jcl cyI f4 jbW cyI jdN jbL cyI jdi)) (wn := (qIE a0 jaK jaR ja1 jb6 jbc jbV ja3 jbH jaT jbO jaq jac jbI jbl jbn jba jaa x1 jdD jaR jbs jbt jbo jbp jbk jbj jbf jbq jbE jbm jbi jcd jaT jbb jbr jaR jb6 jbb cyI jbQ jbs cyI jci jbt cyI jcj jb6 jbW jbL jcl jcc jdh jcc cyI f2 jcl cyI f4 jbW cyI jdN jbL cyI jdi a3 cyJ n3 f3)) hP hD [0, 1, 2, 3, 4, 5, 6, 7, 8, 9, 10] [11] [1, 2, 3, 4, 5, 6, 7, 8, 9, 10, 11, 0] hCc rfl (by decide +kernel) (by decide +kernel) (by decide +kernel) rfl hk1 hFc hP1 hD1
    generalize H1 = H at hP hS hc9 ⊢
    obtain ⟨rfl, hw⟩ := hw
    refine vx_catch (own := RL) (name := "java/util/NoSuchElementException") hown [] ⟨0, 17, 20, 31⟩ [] (hTb.trans rfl) (fun z hz => nomatch hz) (by decide) (by decide) (hts _ qaQG) (va_Nw.use rfl (hY.2.2.2.1.2 _ (List.mem_of_getElem? (i := 1) rfl))) hc9 hv9 hcl9 ?_
    refine lv_astore (lv' := [(4, .ref qx9), (0, .ref a0), (1, .int p1), (2, .int p2), (3, .ref a3)]) hx hb (qaa qpM 12 rfl) hl (by decide) rfl (fun ls hl => ?_)
    refine lv_iconst (v := 1) hx hb (qaa qpM 13 rfl) (by decide) ?_
    exact (W.widen (k := 2) (n := 12) (nbq rfl) (nbq rfl) (W.iret (v := 1) hx hb hr (fun t ht hW => ⟨⟨1, (x1, f2, f4, f3), rfl, hw, by rw [ht]; exact hP, va_K.moved hW.alike hK, hD⟩, hS.F ht⟩) hS.2.2 (qaa qpM 14 rfl)))
  obtain ⟨x1, f2, f4⟩ := u
  obtain ⟨hP1, hK1, hD1⟩ := hB
  rw [ht] at hP1
  obtain ⟨hP, hD⟩ := va_join (wr := [(a3, .inl (cyJ, n3, .inr (.inl f3)))]) (w1 := (qaXx a0 jaK jaR ja1 jb6 jbc jbV ja3 jbH jaT jbO jaq jac jbI jbl jbn jba jaa x1 jdD jaR jbs jbt jbo jbp jbk jbj jbf jbq jbE jbm jbi jcd jaT jbb jbr jaR jb6 jbb cyI jbQ jbs cyI jci jbt cyI jcj jb6 jbW jbL jcl jcc jdh jcc cyI f2 jcl cyI f4 jbW cyI jdN jbL cyI jdi)) hP hD [0, 1, 2, 3, 4, 5, 6, 7, 8, 9, 10] [11] rfl rfl (by decide) (by decide) hk1 hFc hP1 hD1
  have hP : va_P (dC, dI) vwCl (qIE a0 jaK jaR ja1 jb6 jbc jbV ja3 jbH jaT jbO jaq jac jbI jbl jbn jba jaa x1 jdD jaR jbs jbt jbo jbp jbk jbj jbf jbq jbE jbm jbi jcd jaT jbb jbr jaR jb6 jbb cyI jbQ jbs cyI jci jbt cyI jcj jb6 jbW jbL jcl jcc jdh jcc cyI f2 jcl cyI f4 jbW cyI jdN jbL cyI jdi a3 cyJ n3 f3) H1 := hP.sub [1, 2, 3, 4, 5, 6, 7, 8, 9, 10, 11, 0] rfl
  have hD : va_D A (qIE a0 jaK jaR ja1 jb6 jbc jbV ja3 jbH jaT jbO jaq jac jbI jbl jbn jba jaa x1 jdD jaR jbs jbt jbo jbp jbk jbj jbf jbq jbE jbm jbi jcd jaT jbb jbr jaR jb6 jbb cyI jbQ jbs cyI jci jbt cyI jcj jb6 jbW jbL jcl jcc jdh jcc cyI f2 jcl cyI f4 jbW cyI jdN jbL cyI jdi a3 cyJ n3 f3) := hD.sub [1, 2, 3, 4, 5, 6, 7, 8, 9, 10, 11, 0] (by decide) rfl
  generalize H1 = H at hP hS ⊢
  refine lv_if_eq (tgt := 15) hx hb (qaa qpM 6 rfl) (by decide) (fun c6 => ?_) (fun c6 => ?_)
  · have hw := hw.1 c6
    refine lv_lconst (v := 0) hx hb (qaa qpM 9 rfl) (by decide) ?_
    obtain ⟨hi9, hw⟩ := hw
    refine va_last hx hb hK hP hD hS 11 2 rfl rfl hi9 (qaa qpM 10 rfl) (fun H locs hP hD hS => ?_)
    obtain ⟨f7, ef7⟩ : ∃ y : Nat → Int64, y = vp_updL f3 (0 : Int32).toNatClampNeg 0 := ⟨_, rfl⟩
    have hw := hw f7 ef7
    have hP : va_P (dC, dI) vwCl (qIE a0 jaK jaR ja1 jb6 jbc jbV ja3 jbH jaT jbO jaq jac jbI jbl jbn jba jaa x1 jdD jaR jbs jbt jbo jbp jbk jbj jbf jbq jbE jbm jbi jcd jaT jbb jbr jaR jb6 jbb cyI jbQ jbs cyI jci jbt cyI jcj jb6 jbW jbL jcl jcc jdh jcc cyI f2 jcl cyI f4 jbW cyI jdN jbL cyI jdi a3 cyJ n3 f7) H := by rw [ef7]; exact hP
    have hD : va_D A (qIE a0 jaK jaR ja1 jb6 jbc jbV ja3 jbH jaT jbO jaq jac jbI jbl jbn jba jaa x1 jdD jaR jbs jbt jbo jbp jbk jbj jbf jbq jbE jbm jbi jcd jaT jbb jbr jaR jb6 jbb cyI jbQ jbs cyI jci jbt cyI jcj jb6 jbW jbL jcl jcc jdh jcc cyI f2 jcl cyI f4 jbW cyI jdN jbL cyI jdi a3 cyJ n3 f7) := by rw [ef7]; exact hD
    refine lv_goto (tgt := 24) hx hb (qaa qpM 11 rfl) (by decide) ?_
    refine lv_iconst (v := 0) hx hb (qaa qpM 15 rfl) (by decide) ?_
    exact (W.widen (k := 2) (n := 12) (nbq rfl) (nbq rfl) (W.iret (v := 0) hx hb hr (fun t ht hW => ⟨⟨0, (x1, f2, f4, f7), rfl, hw, by rw [ht]; exact hP, va_K.moved hW.alike hK, hD⟩, hS.F ht⟩) hS.2.2 (qaa qaAb 0 rfl)))
  · have hw := hw.2 c6
    refine lv_lconst (v := 1) hx hb (qaa qpM 7 rfl) (by decide) ?_
    refine lv_goto (tgt := 16) hx hb (qaa qpM 8 rfl) (by decide) ?_
    obtain ⟨hi9, hw⟩ := hw
    refine va_last hx hb hK hP hD hS 11 2 rfl rfl hi9 (qaa qpM 10 rfl) (fun H locs hP hD hS => ?_)
    obtain ⟨f8, ef8⟩ : ∃ y : Nat → Int64, y = vp_updL f3 (0 : Int32).toNatClampNeg 1 := ⟨_, rfl⟩
    have hw := hw f8 ef8
    have hP : va_P (dC, dI) vwCl (qIE a0 jaK jaR ja1 jb6 jbc jbV ja3 jbH jaT jbO jaq jac jbI jbl jbn jba jaa x1 jdD jaR jbs jbt jbo jbp jbk jbj jbf jbq jbE jbm jbi jcd jaT jbb jbr jaR jb6 jbb cyI jbQ jbs cyI jci jbt cyI jcj jb6 jbW jbL jcl jcc jdh jcc cyI f2 jcl cyI f4 jbW cyI jdN jbL cyI jdi a3 cyJ n3 f8) H := by rw [ef8]; exact hP
    have hD : va_D A (qIE a0 jaK jaR ja1 jb6 jbc jbV ja3 jbH jaT jbO jaq jac jbI jbl jbn jba jaa x1 jdD jaR jbs jbt jbo jbp jbk jbj jbf jbq jbE jbm jbi jcd jaT jbb jbr jaR jb6 jbb cyI jbQ jbs cyI jci jbt cyI jcj jb6 jbW jbL jcl jcc jdh jcc cyI f2 jcl cyI f4 jbW cyI jdN jbL cyI jdi a3 cyJ n3 f8) := by rw [ef8]; exact hD
    refine lv_goto (tgt := 24) hx hb (qaa qpM 11 rfl) (by decide) ?_
    refine lv_iconst (v := 0) hx hb (qaa qpM 15 rfl) (by decide) ?_
    exact (W.widen (k := 2) (n := 12) (nbq rfl) (nbq rfl) (W.iret (v := 0) hx hb hr (fun t ht hW => ⟨⟨0, (x1, f2, f4, f8), rfl, hw, by rw [ht]; exact hP, va_K.moved hW.alike hK, hD⟩, hS.F ht⟩) hS.2.2 (qaa qaAb 0 rfl)))
theorem qYO : ∀ w ∈ u_ws RX1 TX1 4, w ∈ wsX1_givenBy := uiM qxp qWg (by decide +kernel)
theorem qaoM : ∀ w ∈ u_ws RX2 TX2 12, w ∈ wsX1_givenBy := uiM qxp qLp (by decide +kernel)
theorem qamK : (.fieldLink RX1 17 "MarchHares$Days" "owedEach" "[I" : Cond) ∈ wsX1_givenBy := qxp 277 (by decide +kernel)
theorem qalr : (.fieldLink RX1 24 "MarchHares$Days" "down" "LMarchHares$Down;" : Cond) ∈ wsX1_givenBy := qxp 322 (by decide +kernel)
theorem qamT : (.fieldLink RX1 32 "MarchHares$Down" "hares" "I" : Cond) ∈ wsX1_givenBy := qxp 324 (by decide +kernel)
theorem qadE : (.initialized "java/lang/Math" : Cond) ∈ wsX1_givenBy := qxp 651 (by decide +kernel)
theorem qae9 : (.methodLink RX1 171 Lib.Math.min.name : Cond) ∈ wsX1_givenBy := qxp 3848 (by decide +kernel)
theorem qaaJ : (.code Lib.Math.min.name Lib.Math.min.code 2 (some .int) : Cond) ∈ wsX1_givenBy := qxp 652 (by decide +kernel)
theorem qabH : (.static Lib.Math.min.name : Cond) ∈ wsX1_givenBy := qxp 650 (by decide +kernel)
set_option maxHeartbeats 4000000 in
set_option maxRecDepth 100000 in
theorem qax2 {p : Program} {l : Launch} {e : Env} {s : State} {m : MethodId} {args : Array Value} {below : List Frame} {meth : Method} {c : Code} {A : Nat → Prop} (dC : Nat → ClassId) (dI : Nat → Nat → Nat) (cyB cyI cyJ cyP : ClassId) (a0 jfB jlN : Nat) (jmX jhx jhr jhs jgk jgl jgm jgz jfV jgn jgO jfW jiB : Value) (jc6 : Int32) (jmp : NI) (Q : Int32 → Prop) (C0 : cfx p s m args meth c cX1_givenBy (some .int) wsX1_givenBy RX1 4 A (dC, dI) (kT cyB cyI cyJ cyP)) : ∀ (n : Nat) (H : Heap) (locs : List Loc) (ls : Array Slot) (l1 l2 l3 : Int32), va_P (dC, dI) vwCl (qTx a0 jmX jlN jfB jhx jfB jhr jhs jgk jgl jgm jgz jfV jgn jgO jc6 jfW jiB jlN cyI jmp) H → va_D A (qTx a0 jmX jlN jfB jhx jfB jhr jhs jgk jgl jgm jgz jfV jgn jgO jc6 jfW jiB jlN cyI jmp) → va_S A s.heap H locs → lv_has ls 4 [(0, .ref a0), (1, .int l1), (2, .int l2), (3, .int l3)] → qIZ jc6 jmp Q n l1 l2 l3 → W p l e (headSpec wsX1_givenBy ({ frames := 1, cells := 0, slots := 0, locals := 32 })).room s m args below meth c H locs 0 0 (MQ below (va_Qi (fun (r : Int32) (_ : Unit) => Q r ) (cB (dC, dI) (kT cyB cyI cyJ cyP) A (fun u : Unit => ((qTx a0 jmX jlN jfB jhx jfB jhr jhs jgk jgl jgm jgz jfV jgn jgO jc6 jfW jiB jlN cyI jmp) : va_W))) A) args s 0 0 A) (F0 m 4 ls []) := by
  obtain ⟨hx, hb, hr, hts, hown, hlocks, hml, hA, hK, hNw⟩ := id C0
  intro n
  induction n with
  | zero => intro H locs ls l1 l2 l3 hP hD hS hl hw; exact False.elim hw
  | succ n ih =>
    intro H locs ls l1 l2 l3 hP hD hS hl hw
    refine lv_iload_n hx hb (qaa qhC 4 rfl) rfl (lv_at hl 3 rfl) ?_
    refine lv_aload_n hx hb (qaa qhC 5 rfl) rfl (lv_at hl 0 rfl) ?_
    refine va_get (D := (dC, dI)) (ci := 1) (v := .ref jfB) (C := RX1) (T := TX1) (N := 4) hx hb hts qYO hown hK hP 0 rfl rfl 2 (by decide) (hts _ qalr) (fun _ h9 => h9) rfl (qaa qhC 6 rfl) ?_
    refine va_get (D := (dC, dI)) (ci := 2) (v := .int jc6) (C := RX2) (T := TX2) (N := 12) hx hb hts qaoM hown hK hP 1 rfl rfl 9 (by decide) (hts _ qamT) (fun _ h9 => h9) rfl (qaa qhC 7 rfl) ?_
    refine lv_icmp_ge (tgt := 34) hx hb (qaa qhC 8 rfl) (by decide) (fun c1 => ?_) (fun c1 => ?_)
    · have hw := hw.1 c1
      refine lv_iload_n hx hb (qaa qwA 4 rfl) rfl (lv_at hl 2 rfl) ?_
      exact ((W.iret (v := l2) hx hb hr (fun t ht hW => ⟨⟨l2, (), rfl, hw, by rw [ht]; exact hP, va_K.moved hW.alike hK, hD⟩, hS.F ht⟩) hS.2.2 (qaa qwA 5 rfl)))
    · have hw := hw.2 c1
      refine lv_iload_n hx hb (qaa qhC 9 rfl) rfl (lv_at hl 2 rfl) ?_
      refine lv_iload_n hx hb (qaa qhC 10 rfl) rfl (lv_at hl 1 rfl) ?_
      refine lv_aload_n hx hb (qaa qhC 11 rfl) rfl (lv_at hl 0 rfl) ?_
      refine va_get (D := (dC, dI)) (ci := 1) (v := .ref jlN) (C := RX1) (T := TX1) (N := 4) hx hb hts qYO hown hK hP 0 rfl rfl 1 (by decide) (hts _ qamK) (fun _ h9 => h9) rfl (qaa qhC 12 rfl) ?_
      refine lv_iload_n hx hb (qaa qhC 13 rfl) rfl (lv_at hl 3 rfl) ?_
      obtain ⟨hi9, hw⟩ := hw
      refine va_iald hx hb hK hP 2 1 rfl rfl hi9 (qaa qhC 14 rfl) ?_
      refine lv_topi (fun x2 ex2 => ?_)
      have hw := hw x2 ex2
      refine va_mmin hx hb (by rw [hml]; exact hl.1.symm) hown (hts _ qae9) (hts _ qabH) (hts _ qadE) (hts _ qaaJ) (nbq rfl) (nbq rfl) (nbq rfl) (nbq rfl) (qaa qhC 15 rfl) ?_
      refine lv_topi (fun x3 ex3 => ?_)
      have hw := hw x3 ex3
      refine lv_iadd hx hb (qaa qwA 0 rfl) ?_
      refine lv_topi (fun x4 ex4 => ?_)
      have hw := hw x4 ex4
      refine lv_istore_n (lv' := [(2, .int x4), (0, .ref a0), (1, .int l1), (3, .int l3)]) hx hb (qaa qwA 1 rfl) rfl hl (by decide) rfl (fun ls hl => ?_)
      obtain ⟨x5, ex5⟩ : ∃ y : Int32, y = l3 + 1 := ⟨_, rfl⟩
      have hw := hw x5 ex5
      refine lv_iinc (v := x5) (lv' := [(3, .int x5), (2, .int x4), (0, .ref a0), (1, .int l1)]) hx hb (qaa qwA 2 rfl) hl (k := 3) rfl (by rw [ex5]; rfl) (by decide) rfl (fun ls hl => ?_)
      refine lv_goto (tgt := 4) hx hb (qaa qwA 3 rfl) (by decide) ?_
      exact ih _ _ _ l1 x4 x5 hP hD hS (lv_sub hl [2, 3, 1, 0] rfl) hw
set_option maxHeartbeats 4000000 in
set_option maxRecDepth 100000 in
theorem qaRu (l : Launch) (dC : Nat → ClassId) (dI : Nat → Nat → Nat) (cyB cyI cyJ cyP : ClassId) (a0 jfB jlN sz : Nat) (jmX jhx jhr jhs jgk jgl jgm jgz jfV jgn jgO jfW jiB : Value) (jc6 : Int32) (jmp : NI) (p1 : Int32) {Q : Int32 → Prop} (hw : qYz jc6 jmp p1 Q) : Met l yX1_givenBy wsX1_givenBy ({ frames := 1, cells := 0, slots := 0, locals := 32 }) (va_Pc [.ref a0, .int p1] (cPc (dC, dI) (kT cyB cyI cyJ cyP) (qTx a0 jmX jlN jfB jhx jfB jhr jhs jgk jgl jgm jgz jfV jgn jgO jc6 jfW jiB jlN cyI jmp) sz)) (va_Qi (fun (r : Int32) (_ : Unit) => Q r ) (cB (dC, dI) (kT cyB cyI cyJ cyP) (va_A (qTx a0 jmX jlN jfB jhx jfB jhr jhs jgk jgl jgm jgz jfV jgn jgO jc6 jfW jiB jlN cyI jmp) sz) (fun u : Unit => ((qTx a0 jmX jlN jfB jhx jfB jhr jhs jgk jgl jgm jgz jfV jgn jgO jc6 jfW jiB jlN cyI jmp) : va_W))) (va_A (qTx a0 jmX jlN jfB jhx jfB jhr jhs jgk jgl jgm jgz jfV jgn jgO jc6 jfW jiB jlN cyI jmp) sz)) 0 0 (va_A (qTx a0 jmX jlN jfB jhx jfB jhr jhs jgk jgl jgm jgz jfV jgn jgO jc6 jfW jiB jlN cyI jmp) sz) := by
  refine Met.ofW (cc := cX1_givenBy) (maxL := 4) (ret := (some .int)) (by decide) rfl ?_
  intro p e s m args below meth c s₁ B hml hv
  obtain ⟨rfl, hsz, hP, hK, hD0, hNw⟩ := hv
  have hx := B.exec
  have hb := B.bytes
  have hr := B.returns
  have hts := atoms_spec (ws := wsX1_givenBy) B.pre
  have hown : s.vm.findClass RX1 = some m.cls := findClass_of_methodNamed B.named
  have hlocks := B.notSynchronized
  subst hsz
  have hD := hD0.self (sz := s.heap.size)
  generalize hAe : va_A (qTx a0 jmX jlN jfB jhx jfB jhr jhs jgk jgl jgm jgz jfV jgn jgO jc6 jfW jiB jlN cyI jmp) s.heap.size = A at hD ⊢
  have hA : ∀ q : Nat, s.heap.size ≤ q → A q := fun q h => by rw [← hAe]; exact Or.inr h
  have hS : va_S A s.heap s.heap [] := va_S.rf
  have hP : va_P (dC, dI) vwCl (qTx a0 jmX jlN jfB jhx jfB jhr jhs jgk jgl jgm jgz jfV jgn jgO jc6 jfW jiB jlN cyI jmp) s.heap := hP
  have hl := lv_entry ([.ref a0, .int p1]) (n := 4) (nbq rfl)
  rw [lg_entry_eq]
  generalize (lg_sl ([.ref a0, .int p1]) ++ List.replicate (4 - (lg_sl ([.ref a0, .int p1])).length) Slot.unset).toArray = ls at hl ⊢
  have hl : lv_has ls 4 [(0, .ref a0), (1, .int p1)] := hl
  have C0 : cfx p s m _ meth c cX1_givenBy (some .int) wsX1_givenBy RX1 4 A (dC, dI) (kT cyB cyI cyJ cyP) := ⟨hx, hb, hr, hts, hown, hlocks, hml, hA, hK, hNw⟩
  clear hAe
  obtain ⟨H, hH⟩ : ∃ H, H = s.heap := ⟨_, rfl⟩
  rw [← hH] at hP ⊢
  have hS : va_S A s.heap H [] := by rw [hH]; exact va_S.rf
  have hS := hS
  refine lv_iconst (v := 0) hx hb (qaa qhC 0 rfl) (by decide) ?_
  refine lv_istore_n (lv' := [(2, .int 0), (0, .ref a0), (1, .int p1)]) hx hb (qaa qhC 1 rfl) rfl hl (by decide) rfl (fun ls hl => ?_)
  refine lv_iconst (v := 0) hx hb (qaa qhC 2 rfl) (by decide) ?_
  refine lv_istore_n (lv' := [(3, .int 0), (2, .int 0), (0, .ref a0), (1, .int p1)]) hx hb (qaa qhC 3 rfl) rfl hl (by decide) rfl (fun ls hl => ?_)
  obtain ⟨n9, hw⟩ := hw
  exact qax2 dC dI cyB cyI cyJ cyP a0 jfB jlN jmX jhx jhr jhs jgk jgl jgm jgz jfV jgn jgO jfW jiB jc6 jmp Q C0 n9 _ _ _ p1 0 0 hP hD hS (lv_sub hl [2, 3, 1, 0] rfl) hw
theorem qIP : ∀ w ∈ u_ws RX1 TX1 4, w ∈ wsX1_cloverFor := uiM qkx qWg (by decide +kernel)
theorem qadq : ∀ w ∈ u_ws RX2 TX2 12, w ∈ wsX1_cloverFor := uiM qkx qLp (by decide +kernel)
theorem qPJ : (.fieldLink RX1 17 "MarchHares$Days" "owedEach" "[I" : Cond) ∈ wsX1_cloverFor := qkx 277 (by decide +kernel)
theorem q9q : (.fieldLink RX1 24 "MarchHares$Days" "down" "LMarchHares$Down;" : Cond) ∈ wsX1_cloverFor := qkx 322 (by decide +kernel)
theorem qaba : (.fieldLink RX1 32 "MarchHares$Down" "hares" "I" : Cond) ∈ wsX1_cloverFor := qkx 324 (by decide +kernel)
theorem qYK : (.initialized RX10 : Cond) ∈ wsX1_cloverFor := qkx 2 (by decide +kernel)
theorem q56 : (.initialized "java/lang/Math" : Cond) ∈ wsX1_cloverFor := qkx 651 (by decide +kernel)
theorem q60 : (.methodLink RX1 171 Lib.Math.min.name : Cond) ∈ wsX1_cloverFor := qkx 3848 (by decide +kernel)
theorem q2w : (.code Lib.Math.min.name Lib.Math.min.code 2 (some .int) : Cond) ∈ wsX1_cloverFor := qkx 652 (by decide +kernel)
theorem q3z : (.static Lib.Math.min.name : Cond) ∈ wsX1_cloverFor := qkx 650 (by decide +kernel)
theorem qPk : (.static yX10_holds : Cond) ∈ wsX1_cloverFor := qkx 2052 (by decide +kernel)
set_option maxHeartbeats 4000000 in
set_option maxRecDepth 100000 in
theorem qSu {p : Program} {l : Launch} {e : Env} {s : State} {m : MethodId} {args : Array Value} {below : List Frame} {meth : Method} {c : Code} {A : Nat → Prop} (dC : Nat → ClassId) (dI : Nat → Nat → Nat) (cyB cyI cyJ cyP : ClassId) (a0 jfB jlN jch : Nat) (jhx jhr jhs jgk jgl jgm jgz jfV jgn jgO jfW jiB : Value) (jc6 : Int32) (jdE : NI) (Q : Int32 → NI → Prop) (K3 : NI → Int32 → Int32 → Int32 → Int32 → Prop) (hK3 : ∀ (H : Heap) (locs : List Loc) (ls : Array Slot) (jmp : NI) (l1 l2 l3 l4 : Int32), va_P (dC, dI) vwCl (qrD a0 jch jlN jfB jhx jfB jhr jhs jgk jgl jgm jgz jfV jgn jgO jc6 jfW jiB jch cyI jdE jlN cyI jmp) H → va_D A (qrD a0 jch jlN jfB jhx jfB jhr jhs jgk jgl jgm jgz jfV jgn jgO jc6 jfW jiB jch cyI jdE jlN cyI jmp) → va_S A s.heap H locs → lv_has ls 5 [(0, .ref a0), (1, .int l1), (2, .int l2), (3, .int l3), (4, .int l4)] → K3 jmp l1 l2 l3 l4 → W p l e (headSpec wsX1_cloverFor ({ frames := 2, cells := 0, slots := 0, locals := 55 })).room s m args below meth c H locs 0 0 (MQ below (va_Qi (fun (r : Int32) (u : NI) => Q r u) (cB (dC, dI) (kT cyB cyI cyJ cyP) A (fun u : NI => ((qrD a0 jch jlN jfB jhx jfB jhr jhs jgk jgl jgm jgz jfV jgn jgO jc6 jfW jiB jch cyI jdE jlN cyI u) : va_W))) A) args s 0 0 A) (F0 m 3 ls [])) (C0 : cfx p s m args meth c cX1_cloverFor (some .int) wsX1_cloverFor RX1 5 A (dC, dI) (kT cyB cyI cyJ cyP)) : ∀ (H : Heap) (locs : List Loc) (ls : Array Slot) (jmp : NI) (l1 l2 l3 l4 s1 s2 : Int32), va_P (dC, dI) vwCl (qrD a0 jch jlN jfB jhx jfB jhr jhs jgk jgl jgm jgz jfV jgn jgO jc6 jfW jiB jch cyI jdE jlN cyI jmp) H → va_D A (qrD a0 jch jlN jfB jhx jfB jhr jhs jgk jgl jgm jgz jfV jgn jgO jc6 jfW jiB jch cyI jdE jlN cyI jmp) → va_S A s.heap H locs → lv_has ls 5 [(0, .ref a0), (1, .int l1), (2, .int l2), (3, .int l3), (4, .int l4)] → qBp jc6 jdE Q K3 jmp l1 l2 l3 l4 s1 s2 → W p l e (headSpec wsX1_cloverFor ({ frames := 2, cells := 0, slots := 0, locals := 55 })).room s m args below meth c H locs 0 0 (MQ below (va_Qi (fun (r : Int32) (u : NI) => Q r u) (cB (dC, dI) (kT cyB cyI cyJ cyP) A (fun u : NI => ((qrD a0 jch jlN jfB jhx jfB jhr jhs jgk jgl jgm jgz jfV jgn jgO jc6 jfW jiB jch cyI jdE jlN cyI u) : va_W))) A) args s 0 0 A) (F0 m 40 ls [.int s2, .int s1, .ref jlN]) := by
  obtain ⟨hx, hb, hr, hts, hown, hlocks, hml, hA, hK, hNw⟩ := id C0
  intro H locs ls jmp l1 l2 l3 l4 s1 s2 hP hD hS hl hw
  obtain ⟨hi9, hw⟩ := hw
  refine va_iast hx hb hK hP hD hS 3 1 rfl rfl hi9 (qaa qdu 3 rfl) (fun H locs hP hD hS => ?_)
  obtain ⟨f10, ef10⟩ : ∃ y : NI, y = upd jmp s1.toNatClampNeg s2 := ⟨_, rfl⟩
  have hw := hw f10 ef10
  have hP : va_P (dC, dI) vwCl (qrD a0 jch jlN jfB jhx jfB jhr jhs jgk jgl jgm jgz jfV jgn jgO jc6 jfW jiB jch cyI jdE jlN cyI f10) H := by rw [ef10]; exact hP
  have hD : va_D A (qrD a0 jch jlN jfB jhx jfB jhr jhs jgk jgl jgm jgz jfV jgn jgO jc6 jfW jiB jch cyI jdE jlN cyI f10) := by rw [ef10]; exact hD
  obtain ⟨x11, ex11⟩ : ∃ y : Int32, y = l4 + 1 := ⟨_, rfl⟩
  have hw := hw x11 ex11
  refine lv_iinc (v := x11) (lv' := [(4, .int x11), (0, .ref a0), (1, .int l1), (2, .int l2), (3, .int l3)]) hx hb (qaa qdu 4 rfl) hl (k := 4) rfl (by rw [ex11]; rfl) (by decide) rfl (fun ls hl => ?_)
  refine lv_goto (tgt := 3) hx hb (qaa qdu 5 rfl) (by decide) ?_
  exact hK3 _ _ _ f10 l1 l2 l3 x11 hP hD hS (lv_sub hl [1, 2, 3, 4, 0] rfl) hw
set_option maxHeartbeats 4000000 in
set_option maxRecDepth 100000 in
theorem qSx {p : Program} {l : Launch} {e : Env} {s : State} {m : MethodId} {args : Array Value} {below : List Frame} {meth : Method} {c : Code} {A : Nat → Prop} (dC : Nat → ClassId) (dI : Nat → Nat → Nat) (cyB cyI cyJ cyP : ClassId) (a0 jfB jlN jch : Nat) (jhx jhr jhs jgk jgl jgm jgz jfV jgn jgO jfW jiB : Value) (jc6 : Int32) (jdE : NI) (Q : Int32 → NI → Prop) (C0 : cfx p s m args meth c cX1_cloverFor (some .int) wsX1_cloverFor RX1 5 A (dC, dI) (kT cyB cyI cyJ cyP)) : ∀ (H : Heap) (locs : List Loc) (ls : Array Slot) (jmp : NI) (l1 l4 : Int32), va_P (dC, dI) vwCl (qrD a0 jch jlN jfB jhx jfB jhr jhs jgk jgl jgm jgz jfV jgn jgO jc6 jfW jiB jch cyI jdE jlN cyI jmp) H → va_D A (qrD a0 jch jlN jfB jhx jfB jhr jhs jgk jgl jgm jgz jfV jgn jgO jc6 jfW jiB jch cyI jdE jlN cyI jmp) → va_S A s.heap H locs → lv_has ls 5 [(0, .ref a0), (1, .int l1), (4, .int l4)] → qA0 jc6 jdE Q jmp l1 l4 → W p l e (headSpec wsX1_cloverFor ({ frames := 2, cells := 0, slots := 0, locals := 55 })).room s m args below meth c H locs 0 0 (MQ below (va_Qi (fun (r : Int32) (u : NI) => Q r u) (cB (dC, dI) (kT cyB cyI cyJ cyP) A (fun u : NI => ((qrD a0 jch jlN jfB jhx jfB jhr jhs jgk jgl jgm jgz jfV jgn jgO jc6 jfW jiB jch cyI jdE jlN cyI u) : va_W))) A) args s 0 0 A) (F0 m 76 ls []) := by
  obtain ⟨hx, hb, hr, hts, hown, hlocks, hml, hA, hK, hNw⟩ := id C0
  intro H locs ls jmp l1 l4 hP hD hS hl hw
  refine lv_iload hx hb (qaa qk4 4 rfl) (lv_at hl 2 rfl) ?_
  refine lv_aload_n hx hb (qaa qk4 5 rfl) rfl (lv_at hl 0 rfl) ?_
  refine va_get (D := (dC, dI)) (ci := 1) (v := .ref jlN) (C := RX1) (T := TX1) (N := 4) hx hb hts qIP hown hK hP 0 rfl rfl 1 (by decide) (hts _ qPJ) (fun _ h9 => h9) rfl (qaa qk4 6 rfl) ?_
  refine lv_iload_n hx hb (qaa qk4 7 rfl) rfl (lv_at hl 1 rfl) ?_
  obtain ⟨hi9, hw⟩ := hw
  refine va_iald hx hb hK hP 3 1 rfl rfl hi9 (qaa qk4 8 rfl) ?_
  refine lv_topi (fun x12 ex12 => ?_)
  have hw := hw x12 ex12
  refine va_mmin hx hb (by rw [hml]; exact hl.1.symm) hown (hts _ q60) (hts _ q3z) (hts _ q56) (hts _ q2w) (nbq rfl) (nbq rfl) (nbq rfl) (nbq rfl) (qaa qk4 9 rfl) ?_
  refine lv_topi (fun x13 ex13 => ?_)
  have hw := hw x13 ex13
  exact ((W.iret (v := x13) hx hb hr (fun t ht hW => ⟨⟨x13, (jmp), rfl, hw, by rw [ht]; exact hP, va_K.moved hW.alike hK, hD⟩, hS.F ht⟩) hS.2.2 (qaa qk4 10 rfl)))
set_option maxHeartbeats 4000000 in
set_option maxRecDepth 100000 in
theorem qaeF {p : Program} {l : Launch} {e : Env} {s : State} {m : MethodId} {args : Array Value} {below : List Frame} {meth : Method} {c : Code} {A : Nat → Prop} (dC : Nat → ClassId) (dI : Nat → Nat → Nat) (cyB cyI cyJ cyP : ClassId) (a0 jfB jlN jch : Nat) (jhx jhr jhs jgk jgl jgm jgz jfV jgn jgO jfW jiB : Value) (jc6 : Int32) (jdE : NI) (Q : Int32 → NI → Prop) (C0 : cfx p s m args meth c cX1_cloverFor (some .int) wsX1_cloverFor RX1 5 A (dC, dI) (kT cyB cyI cyJ cyP)) : ∀ (n : Nat) (H : Heap) (locs : List Loc) (ls : Array Slot) (jmp : NI) (l1 l3 l4 : Int32), va_P (dC, dI) vwCl (qrD a0 jch jlN jfB jhx jfB jhr jhs jgk jgl jgm jgz jfV jgn jgO jc6 jfW jiB jch cyI jdE jlN cyI jmp) H → va_D A (qrD a0 jch jlN jfB jhx jfB jhr jhs jgk jgl jgm jgz jfV jgn jgO jc6 jfW jiB jch cyI jdE jlN cyI jmp) → va_S A s.heap H locs → lv_has ls 5 [(0, .ref a0), (1, .int l1), (3, .int l3), (4, .int l4)] → qBf jc6 jdE Q n jmp l1 l3 l4 → W p l e (headSpec wsX1_cloverFor ({ frames := 2, cells := 0, slots := 0, locals := 55 })).room s m args below meth c H locs 0 0 (MQ below (va_Qi (fun (r : Int32) (u : NI) => Q r u) (cB (dC, dI) (kT cyB cyI cyJ cyP) A (fun u : NI => ((qrD a0 jch jlN jfB jhx jfB jhr jhs jgk jgl jgm jgz jfV jgn jgO jc6 jfW jiB jch cyI jdE jlN cyI u) : va_W))) A) args s 0 0 A) (F0 m 50 ls []) := by
  obtain ⟨hx, hb, hr, hts, hown, hlocks, hml, hA, hK, hNw⟩ := id C0
  intro n
  induction n with
  | zero => intro H locs ls jmp l1 l3 l4 hP hD hS hl hw; exact False.elim hw
  | succ n ih =>
    intro H locs ls jmp l1 l3 l4 hP hD hS hl hw
    refine lv_iload hx hb (qaa qdu 8 rfl) (lv_at hl 3 rfl) ?_
    refine lv_sipush (v := 495) hx hb (qaa qdu 9 rfl) (by decide) ?_
    refine lv_icmp_ge (tgt := 76) hx hb (qaa qdu 10 rfl) (by decide) (fun c5 => ?_) (fun c5 => ?_)
    · have hw := hw.1 c5
      exact qSx dC dI cyB cyI cyJ cyP a0 jfB jlN jch jhx jhr jhs jgk jgl jgm jgz jfV jgn jgO jfW jiB jc6 jdE Q C0 _ _ _ jmp l1 l4 hP hD hS (lv_sub hl [0, 1, 3] rfl) hw
    · have hw := hw.2 c5
      refine lv_aload_n hx hb (qaa qdu 11 rfl) rfl (lv_at hl 0 rfl) ?_
      refine lv_iload hx hb (qaa qdu 12 rfl) (lv_at hl 3 rfl) ?_
      refine lv_iconst (v := 1) hx hb (qaa qdu 13 rfl) (by decide) ?_
      refine lv_iadd hx hb (qaa qdu 14 rfl) ?_
      refine lv_topi (fun x6 ex6 => ?_)
      have hw := hw x6 ex6
      obtain ⟨hCc, hPc, hDc, hFc⟩ := qac (ws' := (qbaC a0 jch jlN jfB jhx jfB jhr jhs jgk jgl jgm jgz jfV jgn jgO jc6 jfW jiB jlN cyI jmp)) hP hD hS hA [0, 1, 3] (by decide +kernel) rfl
      refine va_calli (va_runV (As := [.int x6]) (rest := []) ⟨hx, hb, hml, hown, hts⟩ (qaRu l dC dI cyB cyI cyJ cyP a0 jfB jlN H.size (.ref jch) (jhx) (jhr) (jhs) (jgk) (jgl) (jgm) (jgz) (jfV) (jgn) (jgO) (jfW) (jiB) jc6 jmp x6 hw) (cwV 1 hts gX1_cloverFor_X1_givenBy rfl rfl rfl (by decide +kernel) ⟨nbq rfl, nbq rfl⟩) ⟨qab, va_recv (q := (RX1, TX1, 4)) hK hPc (ci := 1) (q0 := 0) rfl rfl, qae hPc hK hDc hNw⟩ rfl rfl hl.1 rfl (lv_room (nbq rfl)) (qaa qdu 15 rfl) ⟨nbq rfl, nbq rfl⟩) hS (fun q _ h => hFc q h) hFc (fun r7 u t H1 locs ht hvm hw hB hz1 hk1 hS => ?_)
      obtain ⟨hP1, hK1, hD1⟩ := hB
      rw [ht] at hP1
      obtain ⟨hP, hD⟩ := qad (wr := [(jch, .inl (cyI, 64, .inl jdE))]) (w1 := (qbaC a0 jch jlN jfB jhx jfB jhr jhs jgk jgl jgm jgz jfV jgn jgO jc6 jfW jiB jlN cyI jmp)) (wn := (qrD a0 jch jlN jfB jhx jfB jhr jhs jgk jgl jgm jgz jfV jgn jgO jc6 jfW jiB jch cyI jdE jlN cyI jmp)) hP hD [0, 1, 3] [2] [1, 2, 0, 3] hCc rfl (by decide +kernel) (by decide +kernel) (by decide +kernel) rfl hk1 hFc hP1 hD1
      generalize H1 = H at hP hS ⊢
      refine lv_iload_n hx hb (qaa qk4 0 rfl) rfl (lv_at hl 2 rfl) ?_
      refine lv_icmp_gt (tgt := 76) hx hb (qaa qk4 1 rfl) (by decide) (fun c8 => ?_) (fun c8 => ?_)
      · have hw := hw.1 c8
        exact qSx dC dI cyB cyI cyJ cyP a0 jfB jlN jch jhx jhr jhs jgk jgl jgm jgz jfV jgn jgO jfW jiB jc6 jdE Q C0 _ _ _ jmp l1 l4 hP hD hS (lv_sub hl [0, 1, 3] rfl) hw
      · have hw := hw.2 c8
        obtain ⟨x9, ex9⟩ : ∃ y : Int32, y = l4 + 1 := ⟨_, rfl⟩
        have hw := hw x9 ex9
        refine lv_iinc (v := x9) (lv' := [(4, .int x9), (0, .ref a0), (1, .int l1), (3, .int l3)]) hx hb (qaa qk4 2 rfl) hl (k := 3) rfl (by rw [ex9]; rfl) (by decide) rfl (fun ls hl => ?_)
        refine lv_goto (tgt := 50) hx hb (qaa qk4 3 rfl) (by decide) ?_
        exact ih _ _ _ jmp l1 l3 x9 hP hD hS (lv_sub hl [1, 2, 3, 0] rfl) hw
set_option maxHeartbeats 4000000 in
set_option maxRecDepth 100000 in
theorem qalU {p : Program} {l : Launch} {e : Env} {s : State} {m : MethodId} {args : Array Value} {below : List Frame} {meth : Method} {c : Code} {A : Nat → Prop} (dC : Nat → ClassId) (dI : Nat → Nat → Nat) (cyB cyI cyJ cyP : ClassId) (a0 jfB jlN jch : Nat) (jhx jhr jhs jgk jgl jgm jgz jfV jgn jgO jfW jiB : Value) (jc6 : Int32) (jdE : NI) (Q : Int32 → NI → Prop) (C0 : cfx p s m args meth c cX1_cloverFor (some .int) wsX1_cloverFor RX1 5 A (dC, dI) (kT cyB cyI cyJ cyP)) : ∀ (n : Nat) (H : Heap) (locs : List Loc) (ls : Array Slot) (jmp : NI) (l1 l2 l3 l4 : Int32), va_P (dC, dI) vwCl (qrD a0 jch jlN jfB jhx jfB jhr jhs jgk jgl jgm jgz jfV jgn jgO jc6 jfW jiB jch cyI jdE jlN cyI jmp) H → va_D A (qrD a0 jch jlN jfB jhx jfB jhr jhs jgk jgl jgm jgz jfV jgn jgO jc6 jfW jiB jch cyI jdE jlN cyI jmp) → va_S A s.heap H locs → lv_has ls 5 [(0, .ref a0), (1, .int l1), (2, .int l2), (3, .int l3), (4, .int l4)] → qrl jc6 jdE Q n jmp l1 l2 l3 l4 → W p l e (headSpec wsX1_cloverFor ({ frames := 2, cells := 0, slots := 0, locals := 55 })).room s m args below meth c H locs 0 0 (MQ below (va_Qi (fun (r : Int32) (u : NI) => Q r u) (cB (dC, dI) (kT cyB cyI cyJ cyP) A (fun u : NI => ((qrD a0 jch jlN jfB jhx jfB jhr jhs jgk jgl jgm jgz jfV jgn jgO jc6 jfW jiB jch cyI jdE jlN cyI u) : va_W))) A) args s 0 0 A) (F0 m 3 ls []) := by
  obtain ⟨hx, hb, hr, hts, hown, hlocks, hml, hA, hK, hNw⟩ := id C0
  intro n
  induction n with
  | zero => intro H locs ls jmp l1 l2 l3 l4 hP hD hS hl hw; exact False.elim hw
  | succ n ih =>
    intro H locs ls jmp l1 l2 l3 l4 hP hD hS hl hw
    refine lv_iload hx hb (qaa qeI 2 rfl) (lv_at hl 4 rfl) ?_
    refine lv_aload_n hx hb (qaa qeI 3 rfl) rfl (lv_at hl 0 rfl) ?_
    refine va_get (D := (dC, dI)) (ci := 1) (v := .ref jfB) (C := RX1) (T := TX1) (N := 4) hx hb hts qIP hown hK hP 0 rfl rfl 2 (by decide) (hts _ q9q) (fun _ h9 => h9) rfl (qaa qeI 4 rfl) ?_
    refine va_get (D := (dC, dI)) (ci := 2) (v := .int jc6) (C := RX2) (T := TX2) (N := 12) hx hb hts qadq hown hK hP 1 rfl rfl 9 (by decide) (hts _ qaba) (fun _ h9 => h9) rfl (qaa qeI 5 rfl) ?_
    refine lv_icmp_ge (tgt := 47) hx hb (qaa qeI 6 rfl) (by decide) (fun c1 => ?_) (fun c1 => ?_)
    · have hw := hw.1 c1
      refine lv_iconst (v := 0) hx hb (qaa qdu 6 rfl) (by decide) ?_
      refine lv_istore (lv' := [(4, .int 0), (0, .ref a0), (1, .int l1), (2, .int l2), (3, .int l3)]) hx hb (qaa qdu 7 rfl) hl (by decide) rfl (fun ls hl => ?_)
      obtain ⟨n9, hw⟩ := hw
      exact qaeF dC dI cyB cyI cyJ cyP a0 jfB jlN jch jhx jhr jhs jgk jgl jgm jgz jfV jgn jgO jfW jiB jc6 jdE Q C0 n9 _ _ _ jmp l1 l3 0 hP hD hS (lv_sub hl [1, 2, 4, 0] rfl) hw
    · have hw := hw.2 c1
      refine lv_aload_n hx hb (qaa qeI 7 rfl) rfl (lv_at hl 0 rfl) ?_
      refine va_get (D := (dC, dI)) (ci := 1) (v := .ref jlN) (C := RX1) (T := TX1) (N := 4) hx hb hts qIP hown hK hP 0 rfl rfl 1 (by decide) (hts _ qPJ) (fun _ h9 => h9) rfl (qaa qeI 8 rfl) ?_
      refine lv_iload hx hb (qaa qeI 9 rfl) (lv_at hl 4 rfl) ?_
      refine lv_iload_n hx hb (qaa qeI 10 rfl) rfl (lv_at hl 2 rfl) ?_
      refine lv_iload hx hb (qaa qeI 11 rfl) (lv_at hl 4 rfl) ?_
      obtain ⟨hCc, hPc, hDc, hFc⟩ := qac (ws' := []) hP hD hS hA [] (by decide +kernel) rfl
      refine va_calli (va_runSN (As := [.int l2, .int l4]) (rest := [.int l4, .ref jlN]) ⟨hx, hb, hml, hown, hts⟩ (qnv l dC dI cyB cyI cyJ cyP H.size l2 l4 hw) ⟨(va_cnB 2 hts gX1_cloverFor_X10_holds_n120 rfl rfl rfl (nw_9 hNw) (hts _ qYK) (by decide +kernel) ⟨nbq rfl, nbq rfl⟩), (hts _ qPk), trivial⟩ ⟨qab, qae hPc hK hDc hNw⟩ rfl rfl hl.1 rfl (lv_room (nbq rfl)) (qaa qeI 12 rfl) ⟨nbq rfl, nbq rfl⟩) hS (fun q _ h => hFc q h) hFc (fun r2 u t H1 locs ht hvm hw hB hz1 hk1 hS => ?_)
      obtain ⟨hP1, hK1, hD1⟩ := hB
      rw [ht] at hP1
      obtain ⟨hP, hD⟩ := qah (wr := (qrD a0 jch jlN jfB jhx jfB jhr jhs jgk jgl jgm jgz jfV jgn jgO jc6 jfW jiB jch cyI jdE jlN cyI jmp)) (w1 := []) (wn := (qrD a0 jch jlN jfB jhx jfB jhr jhs jgk jgl jgm jgz jfV jgn jgO jc6 jfW jiB jch cyI jdE jlN cyI jmp)) hP hD [] [0, 1, 2, 3] hCc rfl (by decide +kernel) (by decide +kernel) rfl hk1 hFc hP1 hD1
      generalize H1 = H at hP hS ⊢
      refine lv_if_eq (tgt := 39) hx hb (qaa qeI 13 rfl) (by decide) (fun c3 => ?_) (fun c3 => ?_)
      · have hw := hw.1 c3
        refine lv_iconst (v := 0) hx hb (qaa qdu 2 rfl) (by decide) ?_
        exact qSu dC dI cyB cyI cyJ cyP a0 jfB jlN jch jhx jhr jhs jgk jgl jgm jgz jfV jgn jgO jfW jiB jc6 jdE Q (qrl jc6 jdE Q n) ih C0 _ _ _ jmp l1 l2 l3 l4 l4 0 hP hD hS (lv_sub hl [0, 1, 2, 3, 4] rfl) hw
      · have hw := hw.2 c3
        refine lv_aload_n hx hb (qaa qeI 14 rfl) rfl (lv_at hl 0 rfl) ?_
        refine lv_iload hx hb (qaa qeI 15 rfl) (lv_at hl 4 rfl) ?_
        obtain ⟨hCc, hPc, hDc, hFc⟩ := qac (ws' := (qbam a0 jch jlN jfB jhx jfB jhr jhs jgk jgl jgm jgz jfV jgn jgO jc6 jfW jiB jch cyI jdE)) hP hD hS hA [0, 1, 2] (by decide +kernel) rfl
        refine va_calli (va_runV (As := [.int l4]) (rest := [.int l4, .ref jlN]) ⟨hx, hb, hml, hown, hts⟩ (qaj8 l dC dI cyB cyI cyJ cyP a0 jfB jch H.size (.ref jlN) (jhx) (jhr) (jhs) (jgk) (jgl) (jgm) (jgz) (jfV) (jgn) (jgO) (jfW) (jiB) jc6 jdE l4 hw) (cwV 1 hts gX1_cloverFor_X1_owed rfl rfl rfl (by decide +kernel) ⟨nbq rfl, nbq rfl⟩) ⟨qab, va_recv (q := (RX1, TX1, 4)) hK hPc (ci := 1) (q0 := 0) rfl rfl, qae hPc hK hDc hNw⟩ rfl rfl hl.1 rfl (lv_room (nbq rfl)) (qaa qdu 0 rfl) ⟨nbq rfl, nbq rfl⟩) hS (fun q _ h => hFc q h) hFc (fun r4 u t H1 locs ht hvm hw hB hz1 hk1 hS => ?_)
        obtain ⟨hP1, hK1, hD1⟩ := hB
        rw [ht] at hP1
        obtain ⟨hP, hD⟩ := qad (wr := [(jlN, .inl (cyI, 6, .inl jmp))]) (w1 := (qbam a0 jch jlN jfB jhx jfB jhr jhs jgk jgl jgm jgz jfV jgn jgO jc6 jfW jiB jch cyI jdE)) (wn := (qrD a0 jch jlN jfB jhx jfB jhr jhs jgk jgl jgm jgz jfV jgn jgO jc6 jfW jiB jch cyI jdE jlN cyI jmp)) hP hD [0, 1, 2] [3] [1, 2, 3, 0] hCc rfl (by decide +kernel) (by decide +kernel) (by decide +kernel) rfl hk1 hFc hP1 hD1
        generalize H1 = H at hP hS ⊢
        refine lv_goto (tgt := 40) hx hb (qaa qdu 1 rfl) (by decide) ?_
        exact qSu dC dI cyB cyI cyJ cyP a0 jfB jlN jch jhx jhr jhs jgk jgl jgm jgz jfV jgn jgO jfW jiB jc6 jdE Q (qrl jc6 jdE Q n) ih C0 _ _ _ jmp l1 l2 l3 l4 l4 r4 hP hD hS (lv_sub hl [0, 1, 2, 3, 4] rfl) hw
set_option maxHeartbeats 4000000 in
set_option maxRecDepth 100000 in
theorem qaBA (l : Launch) (dC : Nat → ClassId) (dI : Nat → Nat → Nat) (cyB cyI cyJ cyP : ClassId) (a0 jfB jlN jch sz : Nat) (jhx jhr jhs jgk jgl jgm jgz jfV jgn jgO jfW jiB : Value) (jc6 : Int32) (jdE jmp : NI) (p1 p2 p3 : Int32) {Q : Int32 → NI → Prop} (hw : qPu jc6 jdE jmp p1 p2 p3 Q) : Met l yX1_cloverFor wsX1_cloverFor ({ frames := 2, cells := 0, slots := 0, locals := 55 }) (va_Pc [.ref a0, .int p1, .int p2, .int p3] (cPc (dC, dI) (kT cyB cyI cyJ cyP) (qrD a0 jch jlN jfB jhx jfB jhr jhs jgk jgl jgm jgz jfV jgn jgO jc6 jfW jiB jch cyI jdE jlN cyI jmp) sz)) (va_Qi (fun (r : Int32) (u : NI) => Q r u) (cB (dC, dI) (kT cyB cyI cyJ cyP) (va_A (qrD a0 jch jlN jfB jhx jfB jhr jhs jgk jgl jgm jgz jfV jgn jgO jc6 jfW jiB jch cyI jdE jlN cyI jmp) sz) (fun u : NI => ((qrD a0 jch jlN jfB jhx jfB jhr jhs jgk jgl jgm jgz jfV jgn jgO jc6 jfW jiB jch cyI jdE jlN cyI u) : va_W))) (va_A (qrD a0 jch jlN jfB jhx jfB jhr jhs jgk jgl jgm jgz jfV jgn jgO jc6 jfW jiB jch cyI jdE jlN cyI jmp) sz)) 0 0 (va_A (qrD a0 jch jlN jfB jhx jfB jhr jhs jgk jgl jgm jgz jfV jgn jgO jc6 jfW jiB jch cyI jdE jlN cyI jmp) sz) := by
  refine Met.ofW (cc := cX1_cloverFor) (maxL := 5) (ret := (some .int)) (by decide) rfl ?_
  intro p e s m args below meth c s₁ B hml hv
  obtain ⟨rfl, hsz, hP, hK, hD0, hNw⟩ := hv
  have hx := B.exec
  have hb := B.bytes
  have hr := B.returns
  have hts := atoms_spec (ws := wsX1_cloverFor) B.pre
  have hown : s.vm.findClass RX1 = some m.cls := findClass_of_methodNamed B.named
  have hlocks := B.notSynchronized
  subst hsz
  have hD := hD0.self (sz := s.heap.size)
  generalize hAe : va_A (qrD a0 jch jlN jfB jhx jfB jhr jhs jgk jgl jgm jgz jfV jgn jgO jc6 jfW jiB jch cyI jdE jlN cyI jmp) s.heap.size = A at hD ⊢
  have hA : ∀ q : Nat, s.heap.size ≤ q → A q := fun q h => by rw [← hAe]; exact Or.inr h
  have hS : va_S A s.heap s.heap [] := va_S.rf
  have hP : va_P (dC, dI) vwCl (qrD a0 jch jlN jfB jhx jfB jhr jhs jgk jgl jgm jgz jfV jgn jgO jc6 jfW jiB jch cyI jdE jlN cyI jmp) s.heap := hP
  have hl := lv_entry ([.ref a0, .int p1, .int p2, .int p3]) (n := 5) (nbq rfl)
  rw [lg_entry_eq]
  generalize (lg_sl ([.ref a0, .int p1, .int p2, .int p3]) ++ List.replicate (5 - (lg_sl ([.ref a0, .int p1, .int p2, .int p3])).length) Slot.unset).toArray = ls at hl ⊢
  have hl : lv_has ls 5 [(0, .ref a0), (1, .int p1), (2, .int p2), (3, .int p3)] := hl
  have C0 : cfx p s m _ meth c cX1_cloverFor (some .int) wsX1_cloverFor RX1 5 A (dC, dI) (kT cyB cyI cyJ cyP) := ⟨hx, hb, hr, hts, hown, hlocks, hml, hA, hK, hNw⟩
  clear hAe
  obtain ⟨H, hH⟩ : ∃ H, H = s.heap := ⟨_, rfl⟩
  rw [← hH] at hP ⊢
  have hS : va_S A s.heap H [] := by rw [hH]; exact va_S.rf
  have hS := hS
  refine lv_iconst (v := 0) hx hb (qaa qeI 0 rfl) (by decide) ?_
  refine lv_istore (lv' := [(4, .int 0), (0, .ref a0), (1, .int p1), (2, .int p2), (3, .int p3)]) hx hb (qaa qeI 1 rfl) hl (by decide) rfl (fun ls hl => ?_)
  obtain ⟨n9, hw⟩ := hw
  exact qalU dC dI cyB cyI cyJ cyP a0 jfB jlN jch jhx jhr jhs jgk jgl jgm jgz jfV jgn jgO jfW jiB jc6 jdE Q C0 n9 _ _ _ jmp p1 p2 p3 0 hP hD hS (lv_sub hl [1, 2, 3, 4, 0] rfl) hw
theorem qVR : ∀ w ∈ u_ws RX10 TX10 19, w ∈ wsX10_clover := uiM qrq qyN (by decide +kernel)
theorem qauS : ∀ w ∈ u_ws RX2 TX2 12, w ∈ wsX10_clover := uiM qrq qLp (by decide +kernel)
theorem qafM : (.fieldLink RX10 141 "MarchHares$Down" "hares" "I" : Cond) ∈ wsX10_clover := qrq 644 (by decide +kernel)
theorem qajZ : (.fieldLink RX10 19 "MarchHares" "ground" "LMarchHares$Down;" : Cond) ∈ wsX10_clover := qrq 20 (by decide +kernel)
theorem qamZ : (.fieldLink RX10 58 "MarchHares" "now" "LMarchHares$Days;" : Cond) ∈ wsX10_clover := qrq 79 (by decide +kernel)
set_option maxHeartbeats 4000000 in
set_option maxRecDepth 100000 in
theorem qaN1 (l : Launch) (dC : Nat → ClassId) (dI : Nat → Nat → Nat) (cyB cyI cyJ cyP : ClassId) (a0 jaR jaT jbb jlO sz : Nat) (jaK ja1 jcp jbc jbV ja3 jbH jbO jaq jac jbI jbl jbn jba jaa jcB jcC jbo jbp jbk jbj jbf jbq jef jbi jcd jff : Value) (jbm : Int32) (jbQ : NI) (jdu jbz : Int32) (jmY : NI) (p1 p2 p3 : Int32) {E : String → Int32 → Int32 → NI → Prop} {Q : Int32 → Int32 → Int32 → NI → Prop} (hw : qWk jbm jbQ jdu jbz jmY p1 p2 p3 E Q) : vx_Met l yX10_clover wsX10_clover ({ frames := 8, cells := 3, slots := 18, locals := 164 }) (va_Pc [.ref a0, .int p1, .int p2, .int p3] (cPx l (dC, dI) (kT cyB cyI cyJ cyP) (qwl a0 jaK jaR ja1 jcp jbc jbV ja3 jbH jaT jbO jaq jac jbI jbl jbn jba jaa jdu jbz jaR jcB jcC jbo jbp jbk jbj jbf jbq jef jbm jbi jcd jaT jbb jlO jaR jff jbb cyI jbQ jlO cyI jmY) sz)) (va_Qi (fun (r : Int32) (u : Int32 × Int32 × NI) => Q r u.1 u.2.1 u.2.2) (cB (dC, dI) (kT cyB cyI cyJ cyP) (va_A (qwl a0 jaK jaR ja1 jcp jbc jbV ja3 jbH jaT jbO jaq jac jbI jbl jbn jba jaa jdu jbz jaR jcB jcC jbo jbp jbk jbj jbf jbq jef jbm jbi jcd jaT jbb jlO jaR jff jbb cyI jbQ jlO cyI jmY) sz) (fun u : Int32 × Int32 × NI => ((qwl a0 jaK jaR ja1 jcp jbc jbV ja3 jbH jaT jbO jaq jac jbI jbl jbn jba jaa u.1 u.2.1 jaR jcB jcC jbo jbp jbk jbj jbf jbq jef jbm jbi jcd jaT jbb jlO jaR jff jbb cyI jbQ jlO cyI u.2.2) : va_W))) (va_A (qwl a0 jaK jaR ja1 jcp jbc jbV ja3 jbH jaT jbO jaq jac jbI jbl jbn jba jaa jdu jbz jaR jcB jcC jbo jbp jbk jbj jbf jbq jef jbm jbi jcd jaT jbb jlO jaR jff jbb cyI jbQ jlO cyI jmY) sz)) (vx_X (fun _ => True) (fun (en : String) (u : Int32 × Int32 × NI) (t : State) => E en u.1 u.2.1 u.2.2 ∧ cB (dC, dI) (kT cyB cyI cyJ cyP) (va_A (qwl a0 jaK jaR ja1 jcp jbc jbV ja3 jbH jaT jbO jaq jac jbI jbl jbn jba jaa jdu jbz jaR jcB jcC jbo jbp jbk jbj jbf jbq jef jbm jbi jcd jaT jbb jlO jaR jff jbb cyI jbQ jlO cyI jmY) sz) (fun u : Int32 × Int32 × NI => ((qwl a0 jaK jaR ja1 jcp jbc jbV ja3 jbH jaT jbO jaq jac jbI jbl jbn jba jaa u.1 u.2.1 jaR jcB jcC jbo jbp jbk jbj jbf jbq jef jbm jbi jcd jaT jbb jlO jaR jff jbb cyI jbQ jlO cyI u.2.2) : va_W)) u t) (va_A (qwl a0 jaK jaR ja1 jcp jbc jbV ja3 jbH jaT jbO jaq jac jbI jbl jbn jba jaa jdu jbz jaR jcB jcC jbo jbp jbk jbj jbf jbq jef jbm jbi jcd jaT jbb jlO jaR jff jbb cyI jbQ jlO cyI jmY) sz)) 3 18 (va_A (qwl a0 jaK jaR ja1 jcp jbc jbV ja3 jbH jaT jbO jaq jac jbI jbl jbn jba jaa jdu jbz jaR jcB jcC jbo jbp jbk jbj jbf jbq jef jbm jbi jcd jaT jbb jlO jaR jff jbb cyI jbQ jlO cyI jmY) sz) := by
  refine vx_ofW (cc := cX10_clover) (maxL := 4) (ret := (some .int)) (by decide) rfl ?_
  intro p e s m args below meth c s₁ B hml hnt hv
  obtain ⟨rfl, hsz, hP, hK, hD0, hNw, hXl, hXu, hXn, hXt⟩ := hv
  have hx := B.exec
  have hb := B.bytes
  have hr := B.returns
  have hts := atoms_spec (ws := wsX10_clover) B.pre
  have hown : s.vm.findClass RX10 = some m.cls := findClass_of_methodNamed B.named
  have hlocks := B.notSynchronized
  subst hsz
  have hD := hD0.self (sz := s.heap.size)
  generalize hAe : va_A (qwl a0 jaK jaR ja1 jcp jbc jbV ja3 jbH jaT jbO jaq jac jbI jbl jbn jba jaa jdu jbz jaR jcB jcC jbo jbp jbk jbj jbf jbq jef jbm jbi jcd jaT jbb jlO jaR jff jbb cyI jbQ jlO cyI jmY) s.heap.size = A at hD hXu hXn ⊢
  have hA : ∀ q : Nat, s.heap.size ≤ q → A q := fun q h => by rw [← hAe]; exact Or.inr h
  have hS : va_S A s.heap s.heap [] := va_S.rf
  have hP : va_P (dC, dI) vwCl (qwl a0 jaK jaR ja1 jcp jbc jbV ja3 jbH jaT jbO jaq jac jbI jbl jbn jba jaa jdu jbz jaR jcB jcC jbo jbp jbk jbj jbf jbq jef jbm jbi jcd jaT jbb jlO jaR jff jbb cyI jbQ jlO cyI jmY) s.heap := hP
  have hl := lv_entry ([.ref a0, .int p1, .int p2, .int p3]) (n := 4) (nbq rfl)
  rw [lg_entry_eq]
  generalize (lg_sl ([.ref a0, .int p1, .int p2, .int p3]) ++ List.replicate (4 - (lg_sl ([.ref a0, .int p1, .int p2, .int p3])).length) Slot.unset).toArray = ls at hl ⊢
  have hl : lv_has ls 4 [(0, .ref a0), (1, .int p1), (2, .int p2), (3, .int p3)] := hl
  have hY : cfY l s A := ⟨hXl, hXu, hXn, hXt⟩
  have hXs : cfX l s c A := ⟨hnt, hY⟩
  have C0 : cfx p s m _ meth c cX10_clover (some .int) wsX10_clover RX10 4 A (dC, dI) (kT cyB cyI cyJ cyP) ∧ cfX l s c A := ⟨⟨hx, hb, hr, hts, hown, hlocks, hml, hA, hK, hNw⟩, hXs⟩
  clear hAe
  obtain ⟨H, hH⟩ : ∃ H, H = s.heap := ⟨_, rfl⟩
  rw [← hH] at hP ⊢
  have hS : va_S A s.heap H [] := by rw [hH]; exact va_S.rf
  have hS := hS
  refine lv_aload_n hx hb (qaa qgQ 0 rfl) rfl (lv_at hl 0 rfl) ?_
  refine lv_iload_n hx hb (qaa qgQ 1 rfl) rfl (lv_at hl 1 rfl) ?_
  obtain ⟨hCc, hPc, hDc, hFc⟩ := qac (ws' := (qaY0 a0 jaK jaR ja1 jcp jbc jbV ja3 jbH jaT jbO jaq jac jbI jbl jbn jba jaa jdu jbz jaR jcB jcC jbo jbp jbk jbj jbf jbq jef jbm jbi jcd)) hP hD hS hA [0, 1] (by decide +kernel) rfl
  refine vx_callv (vx_runV (As := [.int p1]) (rest := []) ⟨hx, hb, hml, hown, hts⟩ (qqu l dC dI cyB cyI cyJ cyP a0 jaR H.size (jaK) (ja1) (jcp) (jbc) (jbV) (ja3) (jbH) (.ref jaT) (jbO) (jaq) (jac) (jbI) (jbl) (jbn) (jba) (jaa) (.int jbz) (jcB) (jcC) (jbo) (jbp) (jbk) (jbj) (jbf) (jbq) (jef) (jbi) (jcd) jbm jdu p1 hw) (cwV 1 hts gX10_clover_X10_needHare rfl rfl rfl (by decide +kernel) ⟨nbq rfl, nbq rfl⟩) ⟨qav, va_recv (q := (RX10, TX10, 19)) hK hPc (ci := 10) (q0 := 0) rfl rfl, qbl hPc hK hDc hNw hY hS hFc⟩ rfl rfl hl.1 rfl (lv_room (nbq rfl)) (qaa qgQ 2 rfl) ⟨nbq rfl, nbq rfl⟩) hS (fun q _ h => hFc q h) hFc (fun q _ h => hFc q h) (fun en ce q9 u t H1 locs ht hvm hpx hB hz1 hk1 hS hc9 hv9 hcl9 => ?_) (fun u t H1 locs ht hvm hw hB hz1 hk1 hS => ?_)
  · obtain ⟨x1, rfl⟩ : ∃ z, z = u := ⟨_, rfl⟩
    obtain ⟨hw, hP1, hK1, hD1⟩ := hB
    rw [ht] at hP1
    obtain ⟨hP, hD⟩ := qad (wr := (qa8Z jaT jbb jlO jaR jff jbb cyI jbQ jlO cyI jmY)) (w1 := (qaY0 a0 jaK jaR ja1 jcp jbc jbV ja3 jbH jaT jbO jaq jac jbI jbl jbn jba jaa x1 jbz jaR jcB jcC jbo jbp jbk jbj jbf jbq jef jbm jbi jcd)) (wn := (qwl a0 jaK jaR ja1 jcp jbc jbV ja3 jbH jaT jbO jaq jac jbI jbl jbn jba jaa x1 jbz jaR jcB jcC jbo jbp jbk jbj jbf jbq jef jbm jbi jcd jaT jbb jlO jaR jff jbb cyI jbQ jlO cyI jmY)) hP hD [0, 1] [2, 3, 4] [3, 4, 0, 1, 2] hCc rfl (by decide +kernel) (by decide +kernel) (by decide +kernel) rfl hk1 hFc hP1 hD1
    generalize H1 = H at hP hS hc9 ⊢
    exact vx_out (fun x hx9 => (hXs.1 x hx9).elim) hlocks hc9 hv9 hcl9 (fun t2 ht2 hal2 => ⟨(x1, jbz, jmY), trivial, ⟨hw, by rw [ht2]; exact hP, va_K.moved hal2 hK, hD⟩, hS.F ht2⟩) hS.2.2 (nbq rfl) (nbq rfl)
  obtain ⟨x1, rfl⟩ : ∃ z, z = u := ⟨_, rfl⟩
  obtain ⟨hP1, hK1, hD1⟩ := hB
  rw [ht] at hP1
  obtain ⟨hP, hD⟩ := qad (wr := (qa8Z jaT jbb jlO jaR jff jbb cyI jbQ jlO cyI jmY)) (w1 := (qaY0 a0 jaK jaR ja1 jcp jbc jbV ja3 jbH jaT jbO jaq jac jbI jbl jbn jba jaa x1 jbz jaR jcB jcC jbo jbp jbk jbj jbf jbq jef jbm jbi jcd)) (wn := (qwl a0 jaK jaR ja1 jcp jbc jbV ja3 jbH jaT jbO jaq jac jbI jbl jbn jba jaa x1 jbz jaR jcB jcC jbo jbp jbk jbj jbf jbq jef jbm jbi jcd jaT jbb jlO jaR jff jbb cyI jbQ jlO cyI jmY)) hP hD [0, 1] [2, 3, 4] [3, 4, 0, 1, 2] hCc rfl (by decide +kernel) (by decide +kernel) (by decide +kernel) rfl hk1 hFc hP1 hD1
  generalize H1 = H at hP hS ⊢
  refine lv_aload_n hx hb (qaa qgQ 3 rfl) rfl (lv_at hl 0 rfl) ?_
  refine lv_iload_n hx hb (qaa qgQ 4 rfl) rfl (lv_at hl 2 rfl) ?_
  refine lv_iconst (v := 0) hx hb (qaa qgQ 5 rfl) (by decide) ?_
  refine lv_iconst (v := 1) hx hb (qaa qgQ 6 rfl) (by decide) ?_
  refine lv_aload_n hx hb (qaa qgQ 7 rfl) rfl (lv_at hl 0 rfl) ?_
  refine va_get (D := (dC, dI)) (ci := 10) (v := .ref jaR) (C := RX10) (T := TX10) (N := 19) hx hb hts qVR hown hK hP 0 rfl rfl 1 (by decide) (hts _ qajZ) (fun _ h9 => h9) rfl (qaa qgQ 8 rfl) ?_
  refine va_get (D := (dC, dI)) (ci := 2) (v := .int jbm) (C := RX2) (T := TX2) (N := 12) hx hb hts qauS hown hK hP 1 rfl rfl 9 (by decide) (hts _ qafM) (fun _ h9 => h9) rfl (qaa qgQ 9 rfl) ?_
  refine lv_ishl hx hb (qaa qgQ 10 rfl) ?_
  refine lv_iconst (v := 1) hx hb (qaa qgQ 11 rfl) (by decide) ?_
  refine lv_isub hx hb (qaa qgQ 12 rfl) ?_
  obtain ⟨hCc, hPc, hDc, hFc⟩ := qac (ws' := (qacy a0 jaK jaR ja1 jcp jbc jbV ja3 jbH jaT jbO jaq jac jbI jbl jbn jba jaa x1 jbz)) hP hD hS hA [0] (by decide +kernel) rfl
  refine vx_callv (vx_runV (As := [.int p2, .int 0, .int ((1 <<< (jbm &&& 31)) - 1)]) (rest := []) ⟨hx, hb, hml, hown, hts⟩ (qaV l dC dI cyB cyI cyJ cyP a0 H.size (jaK) (.ref jaR) (ja1) (jcp) (jbc) (jbV) (ja3) (jbH) (.ref jaT) (jbO) (jaq) (jac) (jbI) (jbl) (jbn) (jba) (jaa) (.int x1) jbz p2 0 ((1 <<< (jbm &&& 31)) - 1) hw) (cwV 3 hts gX10_clover_X10_needWithin rfl rfl rfl (by decide +kernel) ⟨nbq rfl, nbq rfl⟩) ⟨qav, va_recv (q := (RX10, TX10, 19)) hK hPc (ci := 10) (q0 := 0) rfl rfl, qbl hPc hK hDc hNw hY hS hFc⟩ rfl rfl hl.1 rfl (lv_room (nbq rfl)) (qaa qgQ 13 rfl) ⟨nbq rfl, nbq rfl⟩) hS (fun q _ h => hFc q h) hFc (fun q _ h => hFc q h) (fun en ce q9 u t H1 locs ht hvm hpx hB hz1 hk1 hS hc9 hv9 hcl9 => ?_) (fun u t H1 locs ht hvm hw hB hz1 hk1 hS => ?_)
  · obtain ⟨x2, rfl⟩ : ∃ z, z = u := ⟨_, rfl⟩
    obtain ⟨hw, hP1, hK1, hD1⟩ := hB
    rw [ht] at hP1
    obtain ⟨hP, hD⟩ := qad (wr := (qaQY jaR jcB jcC jbo jbp jbk jbj jbf jbq jef jbm jbi jcd jaT jbb jlO jaR jff jbb cyI jbQ jlO cyI jmY)) (w1 := (qacy a0 jaK jaR ja1 jcp jbc jbV ja3 jbH jaT jbO jaq jac jbI jbl jbn jba jaa x1 x2)) (wn := (qwl a0 jaK jaR ja1 jcp jbc jbV ja3 jbH jaT jbO jaq jac jbI jbl jbn jba jaa x1 x2 jaR jcB jcC jbo jbp jbk jbj jbf jbq jef jbm jbi jcd jaT jbb jlO jaR jff jbb cyI jbQ jlO cyI jmY)) hP hD [0] [1, 2, 3, 4] [4, 0, 1, 2, 3] hCc rfl (by decide +kernel) (by decide +kernel) (by decide +kernel) rfl hk1 hFc hP1 hD1
    generalize H1 = H at hP hS hc9 ⊢
    exact vx_out (fun x hx9 => (hXs.1 x hx9).elim) hlocks hc9 hv9 hcl9 (fun t2 ht2 hal2 => ⟨(x1, x2, jmY), trivial, ⟨hw, by rw [ht2]; exact hP, va_K.moved hal2 hK, hD⟩, hS.F ht2⟩) hS.2.2 (nbq rfl) (nbq rfl)
  obtain ⟨x2, rfl⟩ : ∃ z, z = u := ⟨_, rfl⟩
  obtain ⟨hP1, hK1, hD1⟩ := hB
  rw [ht] at hP1
  obtain ⟨hP, hD⟩ := qad (wr := (qaQY jaR jcB jcC jbo jbp jbk jbj jbf jbq jef jbm jbi jcd jaT jbb jlO jaR jff jbb cyI jbQ jlO cyI jmY)) (w1 := (qacy a0 jaK jaR ja1 jcp jbc jbV ja3 jbH jaT jbO jaq jac jbI jbl jbn jba jaa x1 x2)) (wn := (qwl a0 jaK jaR ja1 jcp jbc jbV ja3 jbH jaT jbO jaq jac jbI jbl jbn jba jaa x1 x2 jaR jcB jcC jbo jbp jbk jbj jbf jbq jef jbm jbi jcd jaT jbb jlO jaR jff jbb cyI jbQ jlO cyI jmY)) hP hD [0] [1, 2, 3, 4] [4, 0, 1, 2, 3] hCc rfl (by decide +kernel) (by decide +kernel) (by decide +kernel) rfl hk1 hFc hP1 hD1
  generalize H1 = H at hP hS ⊢
  refine lv_aload_n hx hb (qaa qgQ 14 rfl) rfl (lv_at hl 0 rfl) ?_
  refine lv_iload_n hx hb (qaa qgQ 15 rfl) rfl (lv_at hl 3 rfl) ?_
  refine lv_iconst (v := 0) hx hb (qaa qeR 0 rfl) (by decide) ?_
  refine lv_sipush (v := 999) hx hb (qaa qeR 1 rfl) (by decide) ?_
  obtain ⟨hCc, hPc, hDc, hFc⟩ := qac (ws' := (qacy a0 jaK jaR ja1 jcp jbc jbV ja3 jbH jaT jbO jaq jac jbI jbl jbn jba jaa x1 x2)) hP hD hS hA [0] (by decide +kernel) rfl
  refine vx_callv (vx_runV (As := [.int p3, .int 0, .int 999]) (rest := []) ⟨hx, hb, hml, hown, hts⟩ (qaV l dC dI cyB cyI cyJ cyP a0 H.size (jaK) (.ref jaR) (ja1) (jcp) (jbc) (jbV) (ja3) (jbH) (.ref jaT) (jbO) (jaq) (jac) (jbI) (jbl) (jbn) (jba) (jaa) (.int x1) x2 p3 0 999 hw) (cwV 3 hts gX10_clover_X10_needWithin rfl rfl rfl (by decide +kernel) ⟨nbq rfl, nbq rfl⟩) ⟨qav, va_recv (q := (RX10, TX10, 19)) hK hPc (ci := 10) (q0 := 0) rfl rfl, qbl hPc hK hDc hNw hY hS hFc⟩ rfl rfl hl.1 rfl (lv_room (nbq rfl)) (qaa qeR 2 rfl) ⟨nbq rfl, nbq rfl⟩) hS (fun q _ h => hFc q h) hFc (fun q _ h => hFc q h) (fun en ce q9 u t H1 locs ht hvm hpx hB hz1 hk1 hS hc9 hv9 hcl9 => ?_) (fun u t H1 locs ht hvm hw hB hz1 hk1 hS => ?_)
  · obtain ⟨x3, rfl⟩ : ∃ z, z = u := ⟨_, rfl⟩
    obtain ⟨hw, hP1, hK1, hD1⟩ := hB
    rw [ht] at hP1
    obtain ⟨hP, hD⟩ := qad (wr := (qaQY jaR jcB jcC jbo jbp jbk jbj jbf jbq jef jbm jbi jcd jaT jbb jlO jaR jff jbb cyI jbQ jlO cyI jmY)) (w1 := (qacy a0 jaK jaR ja1 jcp jbc jbV ja3 jbH jaT jbO jaq jac jbI jbl jbn jba jaa x1 x3)) (wn := (qwl a0 jaK jaR ja1 jcp jbc jbV ja3 jbH jaT jbO jaq jac jbI jbl jbn jba jaa x1 x3 jaR jcB jcC jbo jbp jbk jbj jbf jbq jef jbm jbi jcd jaT jbb jlO jaR jff jbb cyI jbQ jlO cyI jmY)) hP hD [0] [1, 2, 3, 4] [4, 0, 1, 2, 3] hCc rfl (by decide +kernel) (by decide +kernel) (by decide +kernel) rfl hk1 hFc hP1 hD1
    generalize H1 = H at hP hS hc9 ⊢
    exact vx_out (fun x hx9 => (hXs.1 x hx9).elim) hlocks hc9 hv9 hcl9 (fun t2 ht2 hal2 => ⟨(x1, x3, jmY), trivial, ⟨hw, by rw [ht2]; exact hP, va_K.moved hal2 hK, hD⟩, hS.F ht2⟩) hS.2.2 (nbq rfl) (nbq rfl)
  obtain ⟨x3, rfl⟩ : ∃ z, z = u := ⟨_, rfl⟩
  obtain ⟨hP1, hK1, hD1⟩ := hB
  rw [ht] at hP1
  obtain ⟨hP, hD⟩ := qad (wr := (qaQY jaR jcB jcC jbo jbp jbk jbj jbf jbq jef jbm jbi jcd jaT jbb jlO jaR jff jbb cyI jbQ jlO cyI jmY)) (w1 := (qacy a0 jaK jaR ja1 jcp jbc jbV ja3 jbH jaT jbO jaq jac jbI jbl jbn jba jaa x1 x3)) (wn := (qwl a0 jaK jaR ja1 jcp jbc jbV ja3 jbH jaT jbO jaq jac jbI jbl jbn jba jaa x1 x3 jaR jcB jcC jbo jbp jbk jbj jbf jbq jef jbm jbi jcd jaT jbb jlO jaR jff jbb cyI jbQ jlO cyI jmY)) hP hD [0] [1, 2, 3, 4] [4, 0, 1, 2, 3] hCc rfl (by decide +kernel) (by decide +kernel) (by decide +kernel) rfl hk1 hFc hP1 hD1
  generalize H1 = H at hP hS ⊢
  refine lv_iload_n hx hb (qaa qeR 3 rfl) rfl (lv_at hl 2 rfl) ?_
  refine lv_iload_n hx hb (qaa qeR 4 rfl) rfl (lv_at hl 1 rfl) ?_
  obtain ⟨hCc, hPc, hDc, hFc⟩ := qac (ws' := []) hP hD hS hA [] (by decide +kernel) rfl
  refine va_calli (va_runS (As := [.int p2, .int p1]) (rest := []) ⟨hx, hb, hml, hown, hts⟩ (qnv l dC dI cyB cyI cyJ cyP H.size p2 p1 hw) (va_cwS 2 hts gX10_clover_X10_holds rfl rfl rfl (by decide +kernel) ⟨nbq rfl, nbq rfl⟩) ⟨qab, qae hPc hK hDc hNw⟩ rfl rfl hl.1 rfl (lv_room (nbq rfl)) (qaa qeR 5 rfl) ⟨nbq rfl, nbq rfl⟩) hS (fun q _ h => hFc q h) hFc (fun r4 u t H1 locs ht hvm hw hB hz1 hk1 hS => ?_)
  obtain ⟨hP1, hK1, hD1⟩ := hB
  rw [ht] at hP1
  obtain ⟨hP, hD⟩ := qah (wr := (qwl a0 jaK jaR ja1 jcp jbc jbV ja3 jbH jaT jbO jaq jac jbI jbl jbn jba jaa x1 x3 jaR jcB jcC jbo jbp jbk jbj jbf jbq jef jbm jbi jcd jaT jbb jlO jaR jff jbb cyI jbQ jlO cyI jmY)) (w1 := []) (wn := (qwl a0 jaK jaR ja1 jcp jbc jbV ja3 jbH jaT jbO jaq jac jbI jbl jbn jba jaa x1 x3 jaR jcB jcC jbo jbp jbk jbj jbf jbq jef jbm jbi jcd jaT jbb jlO jaR jff jbb cyI jbQ jlO cyI jmY)) hP hD [] [0, 1, 2, 3, 4] hCc rfl (by decide +kernel) (by decide +kernel) rfl hk1 hFc hP1 hD1
  generalize H1 = H at hP hS ⊢
  refine lv_if_eq (tgt := 52) hx hb (qaa qeR 6 rfl) (by decide) (fun c5 => ?_) (fun c5 => ?_)
  · have hw := hw.1 c5
    refine lv_iconst (v := 0) hx hb (qaa qeR 14 rfl) (by decide) ?_
    exact vx_ret (W.widen (k := 3) (n := 18) (nbq rfl) (nbq rfl) (W.iret (v := 0) hx hb hr (fun t ht hW => ⟨⟨0, (x1, x3, jmY), rfl, hw, by rw [ht]; exact hP, va_K.moved hW.alike hK, hD⟩, hS.F ht⟩) hS.2.2 (qaa qeR 15 rfl)))
  · have hw := hw.2 c5
    refine lv_aload_n hx hb (qaa qeR 7 rfl) rfl (lv_at hl 0 rfl) ?_
    refine va_get (D := (dC, dI)) (ci := 10) (v := .ref jaT) (C := RX10) (T := TX10) (N := 19) hx hb hts qVR hown hK hP 0 rfl rfl 8 (by decide) (hts _ qamZ) (fun _ h9 => h9) rfl (qaa qeR 8 rfl) ?_
    refine lv_iload_n hx hb (qaa qeR 9 rfl) rfl (lv_at hl 1 rfl) ?_
    refine lv_iload_n hx hb (qaa qeR 10 rfl) rfl (lv_at hl 2 rfl) ?_
    refine lv_iload_n hx hb (qaa qeR 11 rfl) rfl (lv_at hl 3 rfl) ?_
    obtain ⟨hCc, hPc, hDc, hFc⟩ := qac (ws' := (qrD jaT jbb jlO jaR jff jaR jcB jcC jbo jbp jbk jbj jbf jbq jef jbm jbi jcd jbb cyI jbQ jlO cyI jmY)) hP hD hS hA [2, 1, 3, 4] (by decide +kernel) rfl
    refine va_calli (va_runV (As := [.int p1, .int p2, .int p3]) (rest := []) ⟨hx, hb, hml, hown, hts⟩ (qaBA l dC dI cyB cyI cyJ cyP jaT jaR jlO jbb H.size (jff) (jcB) (jcC) (jbo) (jbp) (jbk) (jbj) (jbf) (jbq) (jef) (jbi) (jcd) jbm jbQ jmY p1 p2 p3 hw) (cwV 3 hts gX10_clover_X1_cloverFor rfl rfl rfl (by decide +kernel) ⟨nbq rfl, nbq rfl⟩) ⟨qab, va_recv (q := (RX1, TX1, 4)) hK hPc (ci := 1) (q0 := 0) rfl rfl, qae hPc hK hDc hNw⟩ rfl rfl hl.1 rfl (lv_room (nbq rfl)) (qaa qeR 12 rfl) ⟨nbq rfl, nbq rfl⟩) hS (fun q _ h => hFc q h) hFc (fun r7 u t H1 locs ht hvm hw hB hz1 hk1 hS => ?_)
    obtain ⟨f6, rfl⟩ : ∃ z, z = u := ⟨_, rfl⟩
    obtain ⟨hP1, hK1, hD1⟩ := hB
    rw [ht] at hP1
    obtain ⟨hP, hD⟩ := qad (wr := (qacy a0 jaK jaR ja1 jcp jbc jbV ja3 jbH jaT jbO jaq jac jbI jbl jbn jba jaa x1 x3)) (w1 := (qrD jaT jbb jlO jaR jff jaR jcB jcC jbo jbp jbk jbj jbf jbq jef jbm jbi jcd jbb cyI jbQ jlO cyI f6)) (wn := (qwl a0 jaK jaR ja1 jcp jbc jbV ja3 jbH jaT jbO jaq jac jbI jbl jbn jba jaa x1 x3 jaR jcB jcC jbo jbp jbk jbj jbf jbq jef jbm jbi jcd jaT jbb jlO jaR jff jbb cyI jbQ jlO cyI f6)) hP hD [2, 1, 3, 4] [0] [0, 2, 1, 3, 4] hCc rfl (by decide +kernel) (by decide +kernel) (by decide +kernel) rfl hk1 hFc hP1 hD1
    generalize H1 = H at hP hS ⊢
    refine lv_goto (tgt := 53) hx hb (qaa qeR 13 rfl) (by decide) ?_
    exact vx_ret (W.widen (k := 3) (n := 18) (nbq rfl) (nbq rfl) (W.iret (v := r7) hx hb hr (fun t ht hW => ⟨⟨r7, (x1, x3, f6), rfl, hw, by rw [ht]; exact hP, va_K.moved hW.alike hK, hD⟩, hS.F ht⟩) hS.2.2 (qaa qeR 15 rfl)))
theorem qao5 : (.classLink RL 13 "java/lang/IllegalArgumentException" : Cond) ∈ wsL_clover := qVq 595 (by decide +kernel)
theorem qZu : (.classLink RL 31 "java/util/NoSuchElementException" : Cond) ∈ wsL_clover := qVq 2639 (by decide +kernel)
theorem qaFq : (.codeWith yL_clover cL_clover 6 (some .int) [(0, 12, 15, 31), (0, 12, 19, 13)] : Cond) ∈ wsL_clover := qVq 3799 (by decide +kernel)
set_option maxHeartbeats 4000000 in
set_option maxRecDepth 100000 in
theorem qaYM (l : Launch) (dC : Nat → ClassId) (dI : Nat → Nat → Nat) (cyB cyI cyJ cyP : ClassId) (a0 a4 jaR jaT jbb jlO sz : Nat) (jaK ja1 jcp jbc jbV ja3 jbH jbO jaq jac jbI jbl jbn jba jaa jcB jcC jbo jbp jbk jbj jbf jbq jef jbi jcd jff : Value) (n4 : Nat) (jbm : Int32) (jbQ : NI) (jdu jbz : Int32) (jmY : NI) (f4 : Nat → Int64) (p1 p2 p3 : Int32) {Q : Int32 → Int32 → Int32 → NI → (Nat → Int64) → Prop} (hw : qaBg n4 jbm jbQ jdu jbz jmY f4 p1 p2 p3 Q) : Met l yL_clover wsL_clover ({ frames := 9, cells := 3, slots := 18, locals := 187 }) (va_Pc [.ref a0, .int p1, .int p2, .int p3, .ref a4] (cPx l (dC, dI) (kT cyB cyI cyJ cyP) (qMX a0 jaK jaR ja1 jcp jbc jbV ja3 jbH jaT jbO jaq jac jbI jbl jbn jba jaa jdu jbz jaR jcB jcC jbo jbp jbk jbj jbf jbq jef jbm jbi jcd jaT jbb jlO jaR jff jbb cyI jbQ jlO cyI jmY a4 cyJ n4 f4) sz)) (va_Qi (fun (r : Int32) (u : Int32 × Int32 × NI × (Nat → Int64)) => Q r u.1 u.2.1 u.2.2.1 u.2.2.2) (cB (dC, dI) (kT cyB cyI cyJ cyP) (va_A (qMX a0 jaK jaR ja1 jcp jbc jbV ja3 jbH jaT jbO jaq jac jbI jbl jbn jba jaa jdu jbz jaR jcB jcC jbo jbp jbk jbj jbf jbq jef jbm jbi jcd jaT jbb jlO jaR jff jbb cyI jbQ jlO cyI jmY a4 cyJ n4 f4) sz) (fun u : Int32 × Int32 × NI × (Nat → Int64) => ((qMX a0 jaK jaR ja1 jcp jbc jbV ja3 jbH jaT jbO jaq jac jbI jbl jbn jba jaa u.1 u.2.1 jaR jcB jcC jbo jbp jbk jbj jbf jbq jef jbm jbi jcd jaT jbb jlO jaR jff jbb cyI jbQ jlO cyI u.2.2.1 a4 cyJ n4 u.2.2.2) : va_W))) (va_A (qMX a0 jaK jaR ja1 jcp jbc jbV ja3 jbH jaT jbO jaq jac jbI jbl jbn jba jaa jdu jbz jaR jcB jcC jbo jbp jbk jbj jbf jbq jef jbm jbi jcd jaT jbb jlO jaR jff jbb cyI jbQ jlO cyI jmY a4 cyJ n4 f4) sz)) 3 18 (va_A (qMX a0 jaK jaR ja1 jcp jbc jbV ja3 jbH jaT jbO jaq jac jbI jbl jbn jba jaa jdu jbz jaR jcB jcC jbo jbp jbk jbj jbf jbq jef jbm jbi jcd jaT jbb jlO jaR jff jbb cyI jbQ jlO cyI jmY a4 cyJ n4 f4) sz) := by
  refine va_MetW (cc := cL_clover) (maxL := 6) (ret := (some .int)) (by decide) rfl ?_
  intro p e s m args below meth c s₁ B hml hv
  obtain ⟨rfl, hsz, hP, hK, hD0, hNw, hXl, hXu, hXn, hXt⟩ := hv
  have hx := B.exec
  have hb := B.bytes
  have hr := B.returns
  have hts := atoms_spec (ws := wsL_clover) B.pre
  have hown : s.vm.findClass RL = some m.cls := findClass_of_methodNamed B.named
  have hlocks := B.notSynchronized
  subst hsz
  have hD := hD0.self (sz := s.heap.size)
  generalize hAe : va_A (qMX a0 jaK jaR ja1 jcp jbc jbV ja3 jbH jaT jbO jaq jac jbI jbl jbn jba jaa jdu jbz jaR jcB jcC jbo jbp jbk jbj jbf jbq jef jbm jbi jcd jaT jbb jlO jaR jff jbb cyI jbQ jlO cyI jmY a4 cyJ n4 f4) s.heap.size = A at hD hXu hXn ⊢
  have hA : ∀ q : Nat, s.heap.size ≤ q → A q := fun q h => by rw [← hAe]; exact Or.inr h
  have hS : va_S A s.heap s.heap [] := va_S.rf
  have hP : va_P (dC, dI) vwCl (qMX a0 jaK jaR ja1 jcp jbc jbV ja3 jbH jaT jbO jaq jac jbI jbl jbn jba jaa jdu jbz jaR jcB jcC jbo jbp jbk jbj jbf jbq jef jbm jbi jcd jaT jbb jlO jaR jff jbb cyI jbQ jlO cyI jmY a4 cyJ n4 f4) s.heap := hP
  have hl := lv_entry ([.ref a0, .int p1, .int p2, .int p3, .ref a4]) (n := 6) (nbq rfl)
  rw [lg_entry_eq]
  generalize (lg_sl ([.ref a0, .int p1, .int p2, .int p3, .ref a4]) ++ List.replicate (6 - (lg_sl ([.ref a0, .int p1, .int p2, .int p3, .ref a4])).length) Slot.unset).toArray = ls at hl ⊢
  have hl : lv_has ls 6 [(0, .ref a0), (1, .int p1), (2, .int p2), (3, .int p3), (4, .ref a4)] := hl
  have hY : cfY l s A := ⟨hXl, hXu, hXn, hXt⟩
  have hTb := vx_table (x := yL_clover) B (hts _ qaFq)
  clear hAe
  obtain ⟨H, hH⟩ : ∃ H, H = s.heap := ⟨_, rfl⟩
  rw [← hH] at hP ⊢
  have hS : va_S A s.heap H [] := by rw [hH]; exact va_S.rf
  have hS := hS
  refine lv_aload hx hb (qaa qlz 0 rfl) (lv_at hl 4 rfl) ?_
  refine lv_iconst (v := 0) hx hb (qaa qlz 1 rfl) (by decide) ?_
  refine lv_aload_n hx hb (qaa qlz 2 rfl) rfl (lv_at hl 0 rfl) ?_
  refine lv_iload_n hx hb (qaa qlz 3 rfl) rfl (lv_at hl 1 rfl) ?_
  refine lv_iload_n hx hb (qaa qlz 4 rfl) rfl (lv_at hl 2 rfl) ?_
  refine lv_iload_n hx hb (qaa qlz 5 rfl) rfl (lv_at hl 3 rfl) ?_
  obtain ⟨hCc, hPc, hDc, hFc⟩ := qac (ws' := (qwl a0 jaK jaR ja1 jcp jbc jbV ja3 jbH jaT jbO jaq jac jbI jbl jbn jba jaa jdu jbz jaR jcB jcC jbo jbp jbk jbj jbf jbq jef jbm jbi jcd jaT jbb jlO jaR jff jbb cyI jbQ jlO cyI jmY)) hP hD hS hA [0, 1, 2, 3, 4] (by decide +kernel) rfl
  refine vx_calli (vx_runV (As := [.int p1, .int p2, .int p3]) (rest := [.int 0, .ref a4]) ⟨hx, hb, hml, hown, hts⟩ (qaN1 l dC dI cyB cyI cyJ cyP a0 jaR jaT jbb jlO H.size (jaK) (ja1) (jcp) (jbc) (jbV) (ja3) (jbH) (jbO) (jaq) (jac) (jbI) (jbl) (jbn) (jba) (jaa) (jcB) (jcC) (jbo) (jbp) (jbk) (jbj) (jbf) (jbq) (jef) (jbi) (jcd) (jff) jbm jbQ jdu jbz jmY p1 p2 p3 hw) (cwV 3 hts gL_clover_X10_clover rfl rfl rfl (by decide +kernel) ⟨nbq rfl, nbq rfl⟩) ⟨qav, va_recv (q := (RX10, TX10, 19)) hK hPc (ci := 10) (q0 := 0) rfl rfl, qbl hPc hK hDc hNw hY hS hFc⟩ rfl rfl hl.1 rfl (lv_room (nbq rfl)) (qaa qlz 6 rfl) ⟨nbq rfl, nbq rfl⟩) hS (fun q _ h => hFc q h) hFc (fun q _ h => hFc q h) (fun en ce qx9 u t H1 locs ht hvm hpx hB hz1 hk1 hS hc9 hv9 hcl9 => ?_) (fun r4 u t H1 locs ht hvm hw hB hz1 hk1 hS => ?_)
  · obtain ⟨x1, x2, f3⟩ := u
    obtain ⟨hw, hP1, hK1, hD1⟩ := hB
    rw [ht] at hP1
    obtain ⟨hP, hD⟩ := qad (wr := [(a4, .inl (cyJ, n4, .inr (.inl f4)))]) (w1 := (qwl a0 jaK jaR ja1 jcp jbc jbV ja3 jbH jaT jbO jaq jac jbI jbl jbn jba jaa x1 x2 jaR jcB jcC jbo jbp jbk jbj jbf jbq jef jbm jbi jcd jaT jbb jlO jaR jff jbb cyI jbQ jlO cyI f3)) (wn := (qMX a0 jaK jaR ja1 jcp jbc jbV ja3 jbH jaT jbO jaq jac jbI jbl jbn jba jaa x1 x2 jaR jcB jcC jbo jbp jbk jbj jbf jbq jef jbm jbi jcd jaT jbb jlO jaR jff jbb cyI jbQ jlO cyI f3 a4 cyJ n4 f4)) hP hD [0, 1, 2, 3, 4] [5] [1, 2, 3, 4, 5, 0] hCc rfl (by decide +kernel) (by decide +kernel) (by decide +kernel) rfl hk1 hFc hP1 hD1
    generalize H1 = H at hP hS hc9 ⊢
    rcases hw with ⟨rfl, hw⟩ | ⟨rfl, hw⟩
    · refine vx_catch (own := RL) (name := "java/util/NoSuchElementException") hown [] ⟨0, 12, 15, 31⟩ [⟨0, 12, 19, 13⟩] (hTb.trans rfl) (fun z hz => nomatch hz) (by decide) (by decide) (hts _ qZu) (va_Nw.use rfl (hY.2.2.2.1.2 _ (List.mem_of_getElem? (i := 1) rfl))) hc9 hv9 hcl9 ?_
      refine lv_astore (lv' := [(5, .ref qx9), (0, .ref a0), (1, .int p1), (2, .int p2), (3, .int p3), (4, .ref a4)]) hx hb (qaa qlz 10 rfl) hl (by decide) rfl (fun ls hl => ?_)
      refine lv_iconst (v := 1) hx hb (qaa qlz 11 rfl) (by decide) ?_
      exact (W.widen (k := 3) (n := 18) (nbq rfl) (nbq rfl) (W.iret (v := 1) hx hb hr (fun t ht hW => ⟨⟨1, (x1, x2, f3, f4), rfl, hw, by rw [ht]; exact hP, va_K.moved hW.alike hK, hD⟩, hS.F ht⟩) hS.2.2 (qaa qlz 12 rfl)))
    · refine vx_catch (own := RL) (name := "java/lang/IllegalArgumentException") hown [⟨0, 12, 15, 31⟩] ⟨0, 12, 19, 13⟩ [] (hTb.trans rfl) (fun z hz => by rw [List.mem_singleton.mp hz]; exact Or.inr ⟨by decide, _, (hts _ qZu), hY.2.2.2.2.2⟩) (by decide) (by decide) (hts _ qao5) (va_Nw.use rfl (hY.2.2.2.1.2 _ (List.mem_of_getElem? (i := 0) rfl))) hc9 hv9 hcl9 ?_
      refine lv_astore (lv' := [(5, .ref qx9), (0, .ref a0), (1, .int p1), (2, .int p2), (3, .int p3), (4, .ref a4)]) hx hb (qaa qlz 13 rfl) hl (by decide) rfl (fun ls hl => ?_)
      refine lv_iconst (v := 2) hx hb (qaa qlz 14 rfl) (by decide) ?_
      exact (W.widen (k := 3) (n := 18) (nbq rfl) (nbq rfl) (W.iret (v := 2) hx hb hr (fun t ht hW => ⟨⟨2, (x1, x2, f3, f4), rfl, hw, by rw [ht]; exact hP, va_K.moved hW.alike hK, hD⟩, hS.F ht⟩) hS.2.2 (qaa qlz 15 rfl)))
  obtain ⟨x1, x2, f3⟩ := u
  obtain ⟨hP1, hK1, hD1⟩ := hB
  rw [ht] at hP1
  obtain ⟨hP, hD⟩ := va_join (wr := [(a4, .inl (cyJ, n4, .inr (.inl f4)))]) (w1 := (qwl a0 jaK jaR ja1 jcp jbc jbV ja3 jbH jaT jbO jaq jac jbI jbl jbn jba jaa x1 x2 jaR jcB jcC jbo jbp jbk jbj jbf jbq jef jbm jbi jcd jaT jbb jlO jaR jff jbb cyI jbQ jlO cyI f3)) hP hD [0, 1, 2, 3, 4] [5] rfl rfl (by decide) (by decide) hk1 hFc hP1 hD1
  have hP : va_P (dC, dI) vwCl (qMX a0 jaK jaR ja1 jcp jbc jbV ja3 jbH jaT jbO jaq jac jbI jbl jbn jba jaa x1 x2 jaR jcB jcC jbo jbp jbk jbj jbf jbq jef jbm jbi jcd jaT jbb jlO jaR jff jbb cyI jbQ jlO cyI f3 a4 cyJ n4 f4) H1 := hP.sub [1, 2, 3, 4, 5, 0] rfl
  have hD : va_D A (qMX a0 jaK jaR ja1 jcp jbc jbV ja3 jbH jaT jbO jaq jac jbI jbl jbn jba jaa x1 x2 jaR jcB jcC jbo jbp jbk jbj jbf jbq jef jbm jbi jcd jaT jbb jlO jaR jff jbb cyI jbQ jlO cyI f3 a4 cyJ n4 f4) := hD.sub [1, 2, 3, 4, 5, 0] (by decide) rfl
  generalize H1 = H at hP hS ⊢
  refine lv_i2l (v := r4.toInt64) hx hb (qaa qlz 7 rfl) rfl ?_
  refine lv_topl (fun x5 ex5 => ?_)
  have hw := hw x5 ex5
  obtain ⟨hi9, hw⟩ := hw
  refine va_last hx hb hK hP hD hS 5 2 rfl rfl hi9 (qaa qlz 8 rfl) (fun H locs hP hD hS => ?_)
  obtain ⟨f6, ef6⟩ : ∃ y : Nat → Int64, y = vp_updL f4 (0 : Int32).toNatClampNeg x5 := ⟨_, rfl⟩
  have hw := hw f6 ef6
  have hP : va_P (dC, dI) vwCl (qMX a0 jaK jaR ja1 jcp jbc jbV ja3 jbH jaT jbO jaq jac jbI jbl jbn jba jaa x1 x2 jaR jcB jcC jbo jbp jbk jbj jbf jbq jef jbm jbi jcd jaT jbb jlO jaR jff jbb cyI jbQ jlO cyI f3 a4 cyJ n4 f6) H := by rw [ef6]; exact hP
  have hD : va_D A (qMX a0 jaK jaR ja1 jcp jbc jbV ja3 jbH jaT jbO jaq jac jbI jbl jbn jba jaa x1 x2 jaR jcB jcC jbo jbp jbk jbj jbf jbq jef jbm jbi jcd jaT jbb jlO jaR jff jbb cyI jbQ jlO cyI f3 a4 cyJ n4 f6) := by rw [ef6]; exact hD
  refine lv_goto (tgt := 23) hx hb (qaa qlz 9 rfl) (by decide) ?_
  refine lv_iconst (v := 0) hx hb (qaa q7U 0 rfl) (by decide) ?_
  exact (W.widen (k := 3) (n := 18) (nbq rfl) (nbq rfl) (W.iret (v := 0) hx hb hr (fun t ht hW => ⟨⟨0, (x1, x2, f3, f6), rfl, hw, by rw [ht]; exact hP, va_K.moved hW.alike hK, hD⟩, hS.F ht⟩) hS.2.2 (qaa q7U 1 rfl)))
theorem qaDQ : ∀ w ∈ u_ws RX10 TX10 19, w ∈ wsX10_debt := uiM qOC qyN (by decide +kernel)
theorem qaB0 : (.fieldLink RX10 58 "MarchHares" "now" "LMarchHares$Days;" : Cond) ∈ wsX10_debt := qOC 79 (by decide +kernel)
set_option maxHeartbeats 4000000 in
set_option maxRecDepth 100000 in
theorem qaWE (l : Launch) (dC : Nat → ClassId) (dI : Nat → Nat → Nat) (cyB cyI cyJ cyP : ClassId) (a0 jaR jaT jbb sz : Nat) (jaK ja1 jcp jbc jbV ja3 jbH jbO jaq jac jbI jbl jbn jba jaa jdD jcB jcC jbo jbp jbk jbj jbf jbq jef jbi jcd jbr jhD jff : Value) (jbm : Int32) (jbQ : NI) (jdu p1 p2 : Int32) {E : String → Int32 → Prop} {Q : Int32 → Int32 → Prop} (hw : qaaa jbm jbQ jdu p1 p2 E Q) : vx_Met l yX10_debt wsX10_debt ({ frames := 7, cells := 2, slots := 12, locals := 141 }) (va_Pc [.ref a0, .int p1, .int p2] (cPx l (dC, dI) (kT cyB cyI cyJ cyP) (qAS a0 jaK jaR ja1 jcp jbc jbV ja3 jbH jaT jbO jaq jac jbI jbl jbn jba jaa jdu jdD jaR jcB jcC jbo jbp jbk jbj jbf jbq jef jbm jbi jcd jaT jbb jbr jhD jff jbb cyI jbQ) sz)) (va_Qi (fun (r u : Int32) => Q r u) (cB (dC, dI) (kT cyB cyI cyJ cyP) (va_A (qAS a0 jaK jaR ja1 jcp jbc jbV ja3 jbH jaT jbO jaq jac jbI jbl jbn jba jaa jdu jdD jaR jcB jcC jbo jbp jbk jbj jbf jbq jef jbm jbi jcd jaT jbb jbr jhD jff jbb cyI jbQ) sz) (fun u : Int32 => ((qAS a0 jaK jaR ja1 jcp jbc jbV ja3 jbH jaT jbO jaq jac jbI jbl jbn jba jaa u jdD jaR jcB jcC jbo jbp jbk jbj jbf jbq jef jbm jbi jcd jaT jbb jbr jhD jff jbb cyI jbQ) : va_W))) (va_A (qAS a0 jaK jaR ja1 jcp jbc jbV ja3 jbH jaT jbO jaq jac jbI jbl jbn jba jaa jdu jdD jaR jcB jcC jbo jbp jbk jbj jbf jbq jef jbm jbi jcd jaT jbb jbr jhD jff jbb cyI jbQ) sz)) (vx_X (fun _ => True) (fun (en : String) (u : Int32) (t : State) => E en u ∧ cB (dC, dI) (kT cyB cyI cyJ cyP) (va_A (qAS a0 jaK jaR ja1 jcp jbc jbV ja3 jbH jaT jbO jaq jac jbI jbl jbn jba jaa jdu jdD jaR jcB jcC jbo jbp jbk jbj jbf jbq jef jbm jbi jcd jaT jbb jbr jhD jff jbb cyI jbQ) sz) (fun u : Int32 => ((qAS a0 jaK jaR ja1 jcp jbc jbV ja3 jbH jaT jbO jaq jac jbI jbl jbn jba jaa u jdD jaR jcB jcC jbo jbp jbk jbj jbf jbq jef jbm jbi jcd jaT jbb jbr jhD jff jbb cyI jbQ) : va_W)) u t) (va_A (qAS a0 jaK jaR ja1 jcp jbc jbV ja3 jbH jaT jbO jaq jac jbI jbl jbn jba jaa jdu jdD jaR jcB jcC jbo jbp jbk jbj jbf jbq jef jbm jbi jcd jaT jbb jbr jhD jff jbb cyI jbQ) sz)) 2 12 (va_A (qAS a0 jaK jaR ja1 jcp jbc jbV ja3 jbH jaT jbO jaq jac jbI jbl jbn jba jaa jdu jdD jaR jcB jcC jbo jbp jbk jbj jbf jbq jef jbm jbi jcd jaT jbb jbr jhD jff jbb cyI jbQ) sz) := by
  refine vx_ofW (cc := cX10_debt) (maxL := 3) (ret := (some .int)) (by decide) rfl ?_
  intro p e s m args below meth c s₁ B hml hnt hv
  obtain ⟨rfl, hsz, hP, hK, hD0, hNw, hXl, hXu, hXn, hXt⟩ := hv
  have hx := B.exec
  have hb := B.bytes
  have hr := B.returns
  have hts := atoms_spec (ws := wsX10_debt) B.pre
  have hown : s.vm.findClass RX10 = some m.cls := findClass_of_methodNamed B.named
  have hlocks := B.notSynchronized
  subst hsz
  have hD := hD0.self (sz := s.heap.size)
  generalize hAe : va_A (qAS a0 jaK jaR ja1 jcp jbc jbV ja3 jbH jaT jbO jaq jac jbI jbl jbn jba jaa jdu jdD jaR jcB jcC jbo jbp jbk jbj jbf jbq jef jbm jbi jcd jaT jbb jbr jhD jff jbb cyI jbQ) s.heap.size = A at hD hXu hXn ⊢
  have hA : ∀ q : Nat, s.heap.size ≤ q → A q := fun q h => by rw [← hAe]; exact Or.inr h
  have hS : va_S A s.heap s.heap [] := va_S.rf
  have hP : va_P (dC, dI) vwCl (qAS a0 jaK jaR ja1 jcp jbc jbV ja3 jbH jaT jbO jaq jac jbI jbl jbn jba jaa jdu jdD jaR jcB jcC jbo jbp jbk jbj jbf jbq jef jbm jbi jcd jaT jbb jbr jhD jff jbb cyI jbQ) s.heap := hP
  have hl := lv_entry ([.ref a0, .int p1, .int p2]) (n := 3) (nbq rfl)
  rw [lg_entry_eq]
  generalize (lg_sl ([.ref a0, .int p1, .int p2]) ++ List.replicate (3 - (lg_sl ([.ref a0, .int p1, .int p2])).length) Slot.unset).toArray = ls at hl ⊢
  have hl : lv_has ls 3 [(0, .ref a0), (1, .int p1), (2, .int p2)] := hl
  have hY : cfY l s A := ⟨hXl, hXu, hXn, hXt⟩
  have hXs : cfX l s c A := ⟨hnt, hY⟩
  have C0 : cfx p s m _ meth c cX10_debt (some .int) wsX10_debt RX10 3 A (dC, dI) (kT cyB cyI cyJ cyP) ∧ cfX l s c A := ⟨⟨hx, hb, hr, hts, hown, hlocks, hml, hA, hK, hNw⟩, hXs⟩
  clear hAe
  obtain ⟨H, hH⟩ : ∃ H, H = s.heap := ⟨_, rfl⟩
  rw [← hH] at hP ⊢
  have hS : va_S A s.heap H [] := by rw [hH]; exact va_S.rf
  have hS := hS
  refine lv_aload_n hx hb (qaa qqX 0 rfl) rfl (lv_at hl 0 rfl) ?_
  refine lv_iload_n hx hb (qaa qqX 1 rfl) rfl (lv_at hl 1 rfl) ?_
  obtain ⟨hCc, hPc, hDc, hFc⟩ := qac (ws' := (qVQ a0 jaK jaR ja1 jcp jbc jbV ja3 jbH jaT jbO jaq jac jbI jbl jbn jba jaa jdu jdD jaR jcB jcC jbo jbp jbk jbj jbf jbq jef jbm jbi jcd)) hP hD hS hA [0, 1] (by decide +kernel) rfl
  refine vx_callv (vx_runV (As := [.int p1]) (rest := []) ⟨hx, hb, hml, hown, hts⟩ (qqu l dC dI cyB cyI cyJ cyP a0 jaR H.size (jaK) (ja1) (jcp) (jbc) (jbV) (ja3) (jbH) (.ref jaT) (jbO) (jaq) (jac) (jbI) (jbl) (jbn) (jba) (jaa) (jdD) (jcB) (jcC) (jbo) (jbp) (jbk) (jbj) (jbf) (jbq) (jef) (jbi) (jcd) jbm jdu p1 hw) (cwV 1 hts gX10_debt_X10_needHare rfl rfl rfl (by decide +kernel) ⟨nbq rfl, nbq rfl⟩) ⟨qav, va_recv (q := (RX10, TX10, 19)) hK hPc (ci := 10) (q0 := 0) rfl rfl, qbl hPc hK hDc hNw hY hS hFc⟩ rfl rfl hl.1 rfl (lv_room (nbq rfl)) (qaa qqX 2 rfl) ⟨nbq rfl, nbq rfl⟩) hS (fun q _ h => hFc q h) hFc (fun q _ h => hFc q h) (fun en ce q9 u t H1 locs ht hvm hpx hB hz1 hk1 hS hc9 hv9 hcl9 => ?_) (fun u t H1 locs ht hvm hw hB hz1 hk1 hS => ?_)
  · obtain ⟨x1, rfl⟩ : ∃ z, z = u := ⟨_, rfl⟩
    obtain ⟨hw, hP1, hK1, hD1⟩ := hB
    rw [ht] at hP1
    obtain ⟨hP, hD⟩ := qad (wr := (qJC jaT jbb jbr jhD jff jbb cyI jbQ)) (w1 := (qVQ a0 jaK jaR ja1 jcp jbc jbV ja3 jbH jaT jbO jaq jac jbI jbl jbn jba jaa x1 jdD jaR jcB jcC jbo jbp jbk jbj jbf jbq jef jbm jbi jcd)) (wn := (qAS a0 jaK jaR ja1 jcp jbc jbV ja3 jbH jaT jbO jaq jac jbI jbl jbn jba jaa x1 jdD jaR jcB jcC jbo jbp jbk jbj jbf jbq jef jbm jbi jcd jaT jbb jbr jhD jff jbb cyI jbQ)) hP hD [0, 1] [2, 3] [2, 3, 0, 1] hCc rfl (by decide +kernel) (by decide +kernel) (by decide +kernel) rfl hk1 hFc hP1 hD1
    generalize H1 = H at hP hS hc9 ⊢
    exact vx_out (fun x hx9 => (hXs.1 x hx9).elim) hlocks hc9 hv9 hcl9 (fun t2 ht2 hal2 => ⟨(x1), trivial, ⟨hw, by rw [ht2]; exact hP, va_K.moved hal2 hK, hD⟩, hS.F ht2⟩) hS.2.2 (nbq rfl) (nbq rfl)
  obtain ⟨x1, rfl⟩ : ∃ z, z = u := ⟨_, rfl⟩
  obtain ⟨hP1, hK1, hD1⟩ := hB
  rw [ht] at hP1
  obtain ⟨hP, hD⟩ := qad (wr := (qJC jaT jbb jbr jhD jff jbb cyI jbQ)) (w1 := (qVQ a0 jaK jaR ja1 jcp jbc jbV ja3 jbH jaT jbO jaq jac jbI jbl jbn jba jaa x1 jdD jaR jcB jcC jbo jbp jbk jbj jbf jbq jef jbm jbi jcd)) (wn := (qAS a0 jaK jaR ja1 jcp jbc jbV ja3 jbH jaT jbO jaq jac jbI jbl jbn jba jaa x1 jdD jaR jcB jcC jbo jbp jbk jbj jbf jbq jef jbm jbi jcd jaT jbb jbr jhD jff jbb cyI jbQ)) hP hD [0, 1] [2, 3] [2, 3, 0, 1] hCc rfl (by decide +kernel) (by decide +kernel) (by decide +kernel) rfl hk1 hFc hP1 hD1
  generalize H1 = H at hP hS ⊢
  refine lv_aload_n hx hb (qaa qqX 3 rfl) rfl (lv_at hl 0 rfl) ?_
  refine lv_iload_n hx hb (qaa qqX 4 rfl) rfl (lv_at hl 2 rfl) ?_
  obtain ⟨hCc, hPc, hDc, hFc⟩ := qac (ws' := (qVQ a0 jaK jaR ja1 jcp jbc jbV ja3 jbH jaT jbO jaq jac jbI jbl jbn jba jaa x1 jdD jaR jcB jcC jbo jbp jbk jbj jbf jbq jef jbm jbi jcd)) hP hD hS hA [0, 1] (by decide +kernel) rfl
  refine vx_callv (vx_runV (As := [.int p2]) (rest := []) ⟨hx, hb, hml, hown, hts⟩ (qqu l dC dI cyB cyI cyJ cyP a0 jaR H.size (jaK) (ja1) (jcp) (jbc) (jbV) (ja3) (jbH) (.ref jaT) (jbO) (jaq) (jac) (jbI) (jbl) (jbn) (jba) (jaa) (jdD) (jcB) (jcC) (jbo) (jbp) (jbk) (jbj) (jbf) (jbq) (jef) (jbi) (jcd) jbm x1 p2 hw) (cwV 1 hts gX10_debt_X10_needHare rfl rfl rfl (by decide +kernel) ⟨nbq rfl, nbq rfl⟩) ⟨qav, va_recv (q := (RX10, TX10, 19)) hK hPc (ci := 10) (q0 := 0) rfl rfl, qbl hPc hK hDc hNw hY hS hFc⟩ rfl rfl hl.1 rfl (lv_room (nbq rfl)) (qaa qqX 5 rfl) ⟨nbq rfl, nbq rfl⟩) hS (fun q _ h => hFc q h) hFc (fun q _ h => hFc q h) (fun en ce q9 u t H1 locs ht hvm hpx hB hz1 hk1 hS hc9 hv9 hcl9 => ?_) (fun u t H1 locs ht hvm hw hB hz1 hk1 hS => ?_)
  · obtain ⟨x2, rfl⟩ : ∃ z, z = u := ⟨_, rfl⟩
    obtain ⟨hw, hP1, hK1, hD1⟩ := hB
    rw [ht] at hP1
    obtain ⟨hP, hD⟩ := qad (wr := (qJC jaT jbb jbr jhD jff jbb cyI jbQ)) (w1 := (qVQ a0 jaK jaR ja1 jcp jbc jbV ja3 jbH jaT jbO jaq jac jbI jbl jbn jba jaa x2 jdD jaR jcB jcC jbo jbp jbk jbj jbf jbq jef jbm jbi jcd)) (wn := (qAS a0 jaK jaR ja1 jcp jbc jbV ja3 jbH jaT jbO jaq jac jbI jbl jbn jba jaa x2 jdD jaR jcB jcC jbo jbp jbk jbj jbf jbq jef jbm jbi jcd jaT jbb jbr jhD jff jbb cyI jbQ)) hP hD [0, 1] [2, 3] [2, 3, 0, 1] hCc rfl (by decide +kernel) (by decide +kernel) (by decide +kernel) rfl hk1 hFc hP1 hD1
    generalize H1 = H at hP hS hc9 ⊢
    exact vx_out (fun x hx9 => (hXs.1 x hx9).elim) hlocks hc9 hv9 hcl9 (fun t2 ht2 hal2 => ⟨(x2), trivial, ⟨hw, by rw [ht2]; exact hP, va_K.moved hal2 hK, hD⟩, hS.F ht2⟩) hS.2.2 (nbq rfl) (nbq rfl)
  obtain ⟨x2, rfl⟩ : ∃ z, z = u := ⟨_, rfl⟩
  obtain ⟨hP1, hK1, hD1⟩ := hB
  rw [ht] at hP1
  obtain ⟨hP, hD⟩ := qad (wr := (qJC jaT jbb jbr jhD jff jbb cyI jbQ)) (w1 := (qVQ a0 jaK jaR ja1 jcp jbc jbV ja3 jbH jaT jbO jaq jac jbI jbl jbn jba jaa x2 jdD jaR jcB jcC jbo jbp jbk jbj jbf jbq jef jbm jbi jcd)) (wn := (qAS a0 jaK jaR ja1 jcp jbc jbV ja3 jbH jaT jbO jaq jac jbI jbl jbn jba jaa x2 jdD jaR jcB jcC jbo jbp jbk jbj jbf jbq jef jbm jbi jcd jaT jbb jbr jhD jff jbb cyI jbQ)) hP hD [0, 1] [2, 3] [2, 3, 0, 1] hCc rfl (by decide +kernel) (by decide +kernel) (by decide +kernel) rfl hk1 hFc hP1 hD1
  generalize H1 = H at hP hS ⊢
  refine lv_aload_n hx hb (qaa qqX 6 rfl) rfl (lv_at hl 0 rfl) ?_
  refine va_get (D := (dC, dI)) (ci := 10) (v := .ref jaT) (C := RX10) (T := TX10) (N := 19) hx hb hts qaDQ hown hK hP 0 rfl rfl 8 (by decide) (hts _ qaB0) (fun _ h9 => h9) rfl (qaa qqX 7 rfl) ?_
  refine lv_iload_n hx hb (qaa qqX 8 rfl) rfl (lv_at hl 1 rfl) ?_
  refine lv_iload_n hx hb (qaa qqX 9 rfl) rfl (lv_at hl 2 rfl) ?_
  obtain ⟨hCc, hPc, hDc, hFc⟩ := qac (ws' := (qJC jaT jbb jbr jhD jff jbb cyI jbQ)) hP hD hS hA [2, 3] (by decide +kernel) rfl
  refine va_calli (va_runV (As := [.int p1, .int p2]) (rest := []) ⟨hx, hb, hml, hown, hts⟩ (qGD l dC dI cyB cyI cyJ cyP jaT jbb H.size (jbr) (jhD) (jff) jbQ p1 p2 hw) (cwV 2 hts gX10_debt_X1_owesTo rfl rfl rfl (by decide +kernel) ⟨nbq rfl, nbq rfl⟩) ⟨qab, va_recv (q := (RX1, TX1, 4)) hK hPc (ci := 1) (q0 := 0) rfl rfl, qae hPc hK hDc hNw⟩ rfl rfl hl.1 rfl (lv_room (nbq rfl)) (qaa qqX 10 rfl) ⟨nbq rfl, nbq rfl⟩) hS (fun q _ h => hFc q h) hFc (fun r3 u t H1 locs ht hvm hw hB hz1 hk1 hS => ?_)
  obtain ⟨hP1, hK1, hD1⟩ := hB
  rw [ht] at hP1
  obtain ⟨hP, hD⟩ := qah (wr := (qVQ a0 jaK jaR ja1 jcp jbc jbV ja3 jbH jaT jbO jaq jac jbI jbl jbn jba jaa x2 jdD jaR jcB jcC jbo jbp jbk jbj jbf jbq jef jbm jbi jcd)) (w1 := (qJC jaT jbb jbr jhD jff jbb cyI jbQ)) (wn := (qAS a0 jaK jaR ja1 jcp jbc jbV ja3 jbH jaT jbO jaq jac jbI jbl jbn jba jaa x2 jdD jaR jcB jcC jbo jbp jbk jbj jbf jbq jef jbm jbi jcd jaT jbb jbr jhD jff jbb cyI jbQ)) hP hD [2, 3] [0, 1] hCc rfl (by decide +kernel) (by decide +kernel) rfl hk1 hFc hP1 hD1
  generalize H1 = H at hP hS ⊢
  exact vx_ret (W.widen (k := 2) (n := 12) (nbq rfl) (nbq rfl) (W.iret (v := r3) hx hb hr (fun t ht hW => ⟨⟨r3, (x2), rfl, hw, by rw [ht]; exact hP, va_K.moved hW.alike hK, hD⟩, hS.F ht⟩) hS.2.2 (qaa qqX 11 rfl)))
theorem qaIU : (.classLink RL 31 "java/util/NoSuchElementException" : Cond) ∈ wsL_debt := qau4 2639 (by decide +kernel)
theorem qaVd : (.codeWith yL_debt cL_debt 5 (some .int) [(0, 10, 13, 31)] : Cond) ∈ wsL_debt := qau4 2826 (by decide +kernel)
set_option maxHeartbeats 4000000 in
set_option maxRecDepth 100000 in
theorem qa4K (l : Launch) (dC : Nat → ClassId) (dI : Nat → Nat → Nat) (cyB cyI cyJ cyP : ClassId) (a0 a3 jaR jaT jbb sz : Nat) (jaK ja1 jcp jbc jbV ja3 jbH jbO jaq jac jbI jbl jbn jba jaa jdD jcB jcC jbo jbp jbk jbj jbf jbq jef jbi jcd jbr jhD jff : Value) (n3 : Nat) (jbm : Int32) (jbQ : NI) (jdu : Int32) (f3 : Nat → Int64) (p1 p2 : Int32) {Q : Int32 → Int32 → (Nat → Int64) → Prop} (hw : qaVe n3 jbm jbQ jdu f3 p1 p2 Q) : Met l yL_debt wsL_debt ({ frames := 8, cells := 2, slots := 12, locals := 163 }) (va_Pc [.ref a0, .int p1, .int p2, .ref a3] (cPx l (dC, dI) (kT cyB cyI cyJ cyP) (qLU a0 jaK jaR ja1 jcp jbc jbV ja3 jbH jaT jbO jaq jac jbI jbl jbn jba jaa jdu jdD jaR jcB jcC jbo jbp jbk jbj jbf jbq jef jbm jbi jcd jaT jbb jbr jhD jff jbb cyI jbQ a3 cyJ n3 f3) sz)) (va_Qi (fun (r : Int32) (u : Int32 × (Nat → Int64)) => Q r u.1 u.2) (cB (dC, dI) (kT cyB cyI cyJ cyP) (va_A (qLU a0 jaK jaR ja1 jcp jbc jbV ja3 jbH jaT jbO jaq jac jbI jbl jbn jba jaa jdu jdD jaR jcB jcC jbo jbp jbk jbj jbf jbq jef jbm jbi jcd jaT jbb jbr jhD jff jbb cyI jbQ a3 cyJ n3 f3) sz) (fun u : Int32 × (Nat → Int64) => ((qLU a0 jaK jaR ja1 jcp jbc jbV ja3 jbH jaT jbO jaq jac jbI jbl jbn jba jaa u.1 jdD jaR jcB jcC jbo jbp jbk jbj jbf jbq jef jbm jbi jcd jaT jbb jbr jhD jff jbb cyI jbQ a3 cyJ n3 u.2) : va_W))) (va_A (qLU a0 jaK jaR ja1 jcp jbc jbV ja3 jbH jaT jbO jaq jac jbI jbl jbn jba jaa jdu jdD jaR jcB jcC jbo jbp jbk jbj jbf jbq jef jbm jbi jcd jaT jbb jbr jhD jff jbb cyI jbQ a3 cyJ n3 f3) sz)) 2 12 (va_A (qLU a0 jaK jaR ja1 jcp jbc jbV ja3 jbH jaT jbO jaq jac jbI jbl jbn jba jaa jdu jdD jaR jcB jcC jbo jbp jbk jbj jbf jbq jef jbm jbi jcd jaT jbb jbr jhD jff jbb cyI jbQ a3 cyJ n3 f3) sz) := by
  refine va_MetW (cc := cL_debt) (maxL := 5) (ret := (some .int)) (by decide) rfl ?_
  intro p e s m args below meth c s₁ B hml hv
  obtain ⟨rfl, hsz, hP, hK, hD0, hNw, hXl, hXu, hXn, hXt⟩ := hv
  have hx := B.exec
  have hb := B.bytes
  have hr := B.returns
  have hts := atoms_spec (ws := wsL_debt) B.pre
  have hown : s.vm.findClass RL = some m.cls := findClass_of_methodNamed B.named
  have hlocks := B.notSynchronized
  subst hsz
  have hD := hD0.self (sz := s.heap.size)
  generalize hAe : va_A (qLU a0 jaK jaR ja1 jcp jbc jbV ja3 jbH jaT jbO jaq jac jbI jbl jbn jba jaa jdu jdD jaR jcB jcC jbo jbp jbk jbj jbf jbq jef jbm jbi jcd jaT jbb jbr jhD jff jbb cyI jbQ a3 cyJ n3 f3) s.heap.size = A at hD hXu hXn ⊢
  have hA : ∀ q : Nat, s.heap.size ≤ q → A q := fun q h => by rw [← hAe]; exact Or.inr h
  have hS : va_S A s.heap s.heap [] := va_S.rf
  have hP : va_P (dC, dI) vwCl (qLU a0 jaK jaR ja1 jcp jbc jbV ja3 jbH jaT jbO jaq jac jbI jbl jbn jba jaa jdu jdD jaR jcB jcC jbo jbp jbk jbj jbf jbq jef jbm jbi jcd jaT jbb jbr jhD jff jbb cyI jbQ a3 cyJ n3 f3) s.heap := hP
  have hl := lv_entry ([.ref a0, .int p1, .int p2, .ref a3]) (n := 5) (nbq rfl)
  rw [lg_entry_eq]
  generalize (lg_sl ([.ref a0, .int p1, .int p2, .ref a3]) ++ List.replicate (5 - (lg_sl ([.ref a0, .int p1, .int p2, .ref a3])).length) Slot.unset).toArray = ls at hl ⊢
  have hl : lv_has ls 5 [(0, .ref a0), (1, .int p1), (2, .int p2), (3, .ref a3)] := hl
  have hY : cfY l s A := ⟨hXl, hXu, hXn, hXt⟩
  have hTb := vx_table (x := yL_debt) B (hts _ qaVd)
  clear hAe
  obtain ⟨H, hH⟩ : ∃ H, H = s.heap := ⟨_, rfl⟩
  rw [← hH] at hP ⊢
  have hS : va_S A s.heap H [] := by rw [hH]; exact va_S.rf
  have hS := hS
  refine lv_aload_n hx hb (qaa qrX 0 rfl) rfl (lv_at hl 3 rfl) ?_
  refine lv_iconst (v := 0) hx hb (qaa qrX 1 rfl) (by decide) ?_
  refine lv_aload_n hx hb (qaa qrX 2 rfl) rfl (lv_at hl 0 rfl) ?_
  refine lv_iload_n hx hb (qaa qrX 3 rfl) rfl (lv_at hl 1 rfl) ?_
  refine lv_iload_n hx hb (qaa qrX 4 rfl) rfl (lv_at hl 2 rfl) ?_
  obtain ⟨hCc, hPc, hDc, hFc⟩ := qac (ws' := (qAS a0 jaK jaR ja1 jcp jbc jbV ja3 jbH jaT jbO jaq jac jbI jbl jbn jba jaa jdu jdD jaR jcB jcC jbo jbp jbk jbj jbf jbq jef jbm jbi jcd jaT jbb jbr jhD jff jbb cyI jbQ)) hP hD hS hA [0, 1, 2, 3] (by decide +kernel) rfl
  refine vx_calli (vx_runV (As := [.int p1, .int p2]) (rest := [.int 0, .ref a3]) ⟨hx, hb, hml, hown, hts⟩ (qaWE l dC dI cyB cyI cyJ cyP a0 jaR jaT jbb H.size (jaK) (ja1) (jcp) (jbc) (jbV) (ja3) (jbH) (jbO) (jaq) (jac) (jbI) (jbl) (jbn) (jba) (jaa) (jdD) (jcB) (jcC) (jbo) (jbp) (jbk) (jbj) (jbf) (jbq) (jef) (jbi) (jcd) (jbr) (jhD) (jff) jbm jbQ jdu p1 p2 hw) (cwV 2 hts gL_debt_X10_debt rfl rfl rfl (by decide +kernel) ⟨nbq rfl, nbq rfl⟩) ⟨qav, va_recv (q := (RX10, TX10, 19)) hK hPc (ci := 10) (q0 := 0) rfl rfl, qbl hPc hK hDc hNw hY hS hFc⟩ rfl rfl hl.1 rfl (lv_room (nbq rfl)) (qaa qrX 5 rfl) ⟨nbq rfl, nbq rfl⟩) hS (fun q _ h => hFc q h) hFc (fun q _ h => hFc q h) (fun en ce qx9 u t H1 locs ht hvm hpx hB hz1 hk1 hS hc9 hv9 hcl9 => ?_) (fun r2 u t H1 locs ht hvm hw hB hz1 hk1 hS => ?_)
  · obtain ⟨x1, rfl⟩ : ∃ z, z = u := ⟨_, rfl⟩
    obtain ⟨hw, hP1, hK1, hD1⟩ := hB
    rw [ht] at hP1
    obtain ⟨hP, hD⟩ := qad (wr := [(a3, .inl (cyJ, n3, .inr (.inl f3)))]) (w1 := (qAS a0 jaK jaR ja1 jcp jbc jbV ja3 jbH jaT jbO jaq jac jbI jbl jbn jba jaa x1 jdD jaR jcB jcC jbo jbp jbk jbj jbf jbq jef jbm jbi jcd jaT jbb jbr jhD jff jbb cyI jbQ)) (wn := (qLU a0 jaK jaR ja1 jcp jbc jbV ja3 jbH jaT jbO jaq jac jbI jbl jbn jba jaa x1 jdD jaR jcB jcC jbo jbp jbk jbj jbf jbq jef jbm jbi jcd jaT jbb jbr jhD jff jbb cyI jbQ a3 cyJ n3 f3)) hP hD [0, 1, 2, 3] [4] [1, 2, 3, 4, 0] hCc rfl (by decide +kernel) (by decide +kernel) (by decide +kernel) rfl hk1 hFc hP1 hD1
    generalize H1 = H at hP hS hc9 ⊢
    obtain ⟨rfl, hw⟩ := hw
    refine vx_catch (own := RL) (name := "java/util/NoSuchElementException") hown [] ⟨0, 10, 13, 31⟩ [] (hTb.trans rfl) (fun z hz => nomatch hz) (by decide) (by decide) (hts _ qaIU) (va_Nw.use rfl (hY.2.2.2.1.2 _ (List.mem_of_getElem? (i := 1) rfl))) hc9 hv9 hcl9 ?_
    refine lv_astore (lv' := [(4, .ref qx9), (0, .ref a0), (1, .int p1), (2, .int p2), (3, .ref a3)]) hx hb (qaa qrX 9 rfl) hl (by decide) rfl (fun ls hl => ?_)
    refine lv_iconst (v := 1) hx hb (qaa qrX 10 rfl) (by decide) ?_
    exact (W.widen (k := 2) (n := 12) (nbq rfl) (nbq rfl) (W.iret (v := 1) hx hb hr (fun t ht hW => ⟨⟨1, (x1, f3), rfl, hw, by rw [ht]; exact hP, va_K.moved hW.alike hK, hD⟩, hS.F ht⟩) hS.2.2 (qaa qrX 11 rfl)))
  obtain ⟨x1, rfl⟩ : ∃ z, z = u := ⟨_, rfl⟩
  obtain ⟨hP1, hK1, hD1⟩ := hB
  rw [ht] at hP1
  obtain ⟨hP, hD⟩ := va_join (wr := [(a3, .inl (cyJ, n3, .inr (.inl f3)))]) (w1 := (qAS a0 jaK jaR ja1 jcp jbc jbV ja3 jbH jaT jbO jaq jac jbI jbl jbn jba jaa x1 jdD jaR jcB jcC jbo jbp jbk jbj jbf jbq jef jbm jbi jcd jaT jbb jbr jhD jff jbb cyI jbQ)) hP hD [0, 1, 2, 3] [4] rfl rfl (by decide) (by decide) hk1 hFc hP1 hD1
  have hP : va_P (dC, dI) vwCl (qLU a0 jaK jaR ja1 jcp jbc jbV ja3 jbH jaT jbO jaq jac jbI jbl jbn jba jaa x1 jdD jaR jcB jcC jbo jbp jbk jbj jbf jbq jef jbm jbi jcd jaT jbb jbr jhD jff jbb cyI jbQ a3 cyJ n3 f3) H1 := hP.sub [1, 2, 3, 4, 0] rfl
  have hD : va_D A (qLU a0 jaK jaR ja1 jcp jbc jbV ja3 jbH jaT jbO jaq jac jbI jbl jbn jba jaa x1 jdD jaR jcB jcC jbo jbp jbk jbj jbf jbq jef jbm jbi jcd jaT jbb jbr jhD jff jbb cyI jbQ a3 cyJ n3 f3) := hD.sub [1, 2, 3, 4, 0] (by decide) rfl
  generalize H1 = H at hP hS ⊢
  refine lv_i2l (v := r2.toInt64) hx hb (qaa qrX 6 rfl) rfl ?_
  refine lv_topl (fun x3 ex3 => ?_)
  have hw := hw x3 ex3
  obtain ⟨hi9, hw⟩ := hw
  refine va_last hx hb hK hP hD hS 4 2 rfl rfl hi9 (qaa qrX 7 rfl) (fun H locs hP hD hS => ?_)
  obtain ⟨f4, ef4⟩ : ∃ y : Nat → Int64, y = vp_updL f3 (0 : Int32).toNatClampNeg x3 := ⟨_, rfl⟩
  have hw := hw f4 ef4
  have hP : va_P (dC, dI) vwCl (qLU a0 jaK jaR ja1 jcp jbc jbV ja3 jbH jaT jbO jaq jac jbI jbl jbn jba jaa x1 jdD jaR jcB jcC jbo jbp jbk jbj jbf jbq jef jbm jbi jcd jaT jbb jbr jhD jff jbb cyI jbQ a3 cyJ n3 f4) H := by rw [ef4]; exact hP
  have hD : va_D A (qLU a0 jaK jaR ja1 jcp jbc jbV ja3 jbH jaT jbO jaq jac jbI jbl jbn jba jaa x1 jdD jaR jcB jcC jbo jbp jbk jbj jbf jbq jef jbm jbi jcd jaT jbb jbr jhD jff jbb cyI jbQ a3 cyJ n3 f4) := by rw [ef4]; exact hD
  refine lv_goto (tgt := 17) hx hb (qaa qrX 8 rfl) (by decide) ?_
  refine lv_iconst (v := 0) hx hb (qaa qrX 12 rfl) (by decide) ?_
  exact (W.widen (k := 2) (n := 12) (nbq rfl) (nbq rfl) (W.iret (v := 0) hx hb hr (fun t ht hW => ⟨⟨0, (x1, f4), rfl, hw, by rw [ht]; exact hP, va_K.moved hW.alike hK, hD⟩, hS.F ht⟩) hS.2.2 (qaa qrX 13 rfl)))
theorem qJw : ∀ w ∈ u_ws RX8 TX8 7, w ∈ wsX8_isLetter := uiM qXx euX8 (by decide +kernel)
theorem qSz : (.fieldLink RX8 11 "MarchHares$Tape" "bytes" "[B" : Cond) ∈ wsX8_isLetter := qXx 142 (by decide +kernel)
theorem qahO : (.fieldLink RX8 28 "MarchHares$Tape" "length" "I" : Cond) ∈ wsX8_isLetter := qXx 712 (by decide +kernel)
set_option maxHeartbeats 4000000 in
set_option maxRecDepth 100000 in
theorem qaI1 (l : Launch) (dC : Nat → ClassId) (dI : Nat → Nat → Nat) (cyB cyI cyJ cyP : ClassId) (a0 jif sz : Nat) (jby jl9 jjY jmS jkr : Value) (jb7 : Int32) (jjA : NI) (p1 : Int32) {Q : Int32 → Prop} (hw : qS2 jb7 jjA p1 Q) : Met l yX8_isLetter wsX8_isLetter ({ frames := 0, cells := 0, slots := 0, locals := 0 }) (va_Pc [.ref a0, .int p1] (cPc (dC, dI) (kT cyB cyI cyJ cyP) (qaaY a0 jif jb7 jby jl9 jjY jmS jkr jif cyB jjA) sz)) (va_Qi (fun (r : Int32) (_ : Unit) => Q r ) (cB (dC, dI) (kT cyB cyI cyJ cyP) (va_A (qaaY a0 jif jb7 jby jl9 jjY jmS jkr jif cyB jjA) sz) (fun u : Unit => ((qaaY a0 jif jb7 jby jl9 jjY jmS jkr jif cyB jjA) : va_W))) (va_A (qaaY a0 jif jb7 jby jl9 jjY jmS jkr jif cyB jjA) sz)) 0 0 (va_A (qaaY a0 jif jb7 jby jl9 jjY jmS jkr jif cyB jjA) sz) := by
  refine Met.ofW (cc := cX8_isLetter) (maxL := 2) (ret := (some .boolean)) (by decide) rfl ?_
  intro p e s m args below meth c s₁ B hml hv
  obtain ⟨rfl, hsz, hP, hK, hD0, hNw⟩ := hv
  have hx := B.exec
  have hb := B.bytes
  have hr := B.returns
  have hts := atoms_spec (ws := wsX8_isLetter) B.pre
  have hown : s.vm.findClass RX8 = some m.cls := findClass_of_methodNamed B.named
  have hlocks := B.notSynchronized
  subst hsz
  have hD := hD0.self (sz := s.heap.size)
  generalize hAe : va_A (qaaY a0 jif jb7 jby jl9 jjY jmS jkr jif cyB jjA) s.heap.size = A at hD ⊢
  have hA : ∀ q : Nat, s.heap.size ≤ q → A q := fun q h => by rw [← hAe]; exact Or.inr h
  have hS : va_S A s.heap s.heap [] := va_S.rf
  have hP : va_P (dC, dI) vwCl (qaaY a0 jif jb7 jby jl9 jjY jmS jkr jif cyB jjA) s.heap := hP
  have hl := lv_entry ([.ref a0, .int p1]) (n := 2) (nbq rfl)
  rw [lg_entry_eq]
  generalize (lg_sl ([.ref a0, .int p1]) ++ List.replicate (2 - (lg_sl ([.ref a0, .int p1])).length) Slot.unset).toArray = ls at hl ⊢
  have hl : lv_has ls 2 [(0, .ref a0), (1, .int p1)] := hl
  have C0 : cfx p s m _ meth c cX8_isLetter (some .boolean) wsX8_isLetter RX8 2 A (dC, dI) (kT cyB cyI cyJ cyP) := ⟨hx, hb, hr, hts, hown, hlocks, hml, hA, hK, hNw⟩
  clear hAe
  obtain ⟨H, hH⟩ : ∃ H, H = s.heap := ⟨_, rfl⟩
  rw [← hH] at hP ⊢
  have hS : va_S A s.heap H [] := by rw [hH]; exact va_S.rf
  have hS := hS
  refine lv_iload_n hx hb (qaa qfs 0 rfl) rfl (lv_at hl 1 rfl) ?_
  refine lv_aload_n hx hb (qaa qfs 1 rfl) rfl (lv_at hl 0 rfl) ?_
  refine va_get (D := (dC, dI)) (ci := 8) (v := .int jb7) (C := RX8) (T := TX8) (N := 7) hx hb hts qJw hown hK hP 0 rfl rfl 1 (by decide) (hts _ qahO) (fun _ h9 => h9) rfl (qaa qfs 2 rfl) ?_
  refine lv_icmp_ge (tgt := 34) hx hb (qaa qfs 3 rfl) (by decide) (fun c1 => ?_) (fun c1 => ?_)
  · have hw := hw.1 c1
    refine lv_iconst (v := 0) hx hb (qaa qpL 2 rfl) (by decide) ?_
    exact ((W.zret (v := 0) hx hb hr rfl (fun t ht hW => ⟨⟨0, (), rfl, hw, by rw [ht]; exact hP, va_K.moved hW.alike hK, hD⟩, hS.F ht⟩) hS.2.2 (qaa qpL 3 rfl)))
  · have hw := hw.2 c1
    refine lv_aload_n hx hb (qaa qfs 4 rfl) rfl (lv_at hl 0 rfl) ?_
    refine va_get (D := (dC, dI)) (ci := 8) (v := .ref jif) (C := RX8) (T := TX8) (N := 7) hx hb hts qJw hown hK hP 0 rfl rfl 0 (by decide) (hts _ qSz) (fun _ h9 => h9) rfl (qaa qfs 5 rfl) ?_
    refine lv_iload_n hx hb (qaa qfs 6 rfl) rfl (lv_at hl 1 rfl) ?_
    obtain ⟨hi9, hw⟩ := hw
    refine va_bald hx hb hK hP 1 0 rfl rfl hi9 (qaa qfs 7 rfl) ?_
    refine lv_topi (fun x2 ex2 => ?_)
    have hw := hw x2 ex2
    refine lv_bipush (v := 97) hx hb (qaa qfs 8 rfl) (by decide) ?_
    refine lv_icmp_lt (tgt := 34) hx hb (qaa qfs 9 rfl) (by decide) (fun c3 => ?_) (fun c3 => ?_)
    · have hw := hw.1 c3
      refine lv_iconst (v := 0) hx hb (qaa qpL 2 rfl) (by decide) ?_
      exact ((W.zret (v := 0) hx hb hr rfl (fun t ht hW => ⟨⟨0, (), rfl, hw, by rw [ht]; exact hP, va_K.moved hW.alike hK, hD⟩, hS.F ht⟩) hS.2.2 (qaa qpL 3 rfl)))
    · have hw := hw.2 c3
      refine lv_aload_n hx hb (qaa qfs 10 rfl) rfl (lv_at hl 0 rfl) ?_
      refine va_get (D := (dC, dI)) (ci := 8) (v := .ref jif) (C := RX8) (T := TX8) (N := 7) hx hb hts qJw hown hK hP 0 rfl rfl 0 (by decide) (hts _ qSz) (fun _ h9 => h9) rfl (qaa qfs 11 rfl) ?_
      refine lv_iload_n hx hb (qaa qfs 12 rfl) rfl (lv_at hl 1 rfl) ?_
      obtain ⟨hi9, hw⟩ := hw
      refine va_bald hx hb hK hP 1 0 rfl rfl hi9 (qaa qfs 13 rfl) ?_
      refine lv_topi (fun x4 ex4 => ?_)
      have hw := hw x4 ex4
      refine lv_bipush (v := 122) hx hb (qaa qfs 14 rfl) (by decide) ?_
      refine lv_icmp_gt (tgt := 34) hx hb (qaa qfs 15 rfl) (by decide) (fun c5 => ?_) (fun c5 => ?_)
      · have hw := hw.1 c5
        refine lv_iconst (v := 0) hx hb (qaa qpL 2 rfl) (by decide) ?_
        exact ((W.zret (v := 0) hx hb hr rfl (fun t ht hW => ⟨⟨0, (), rfl, hw, by rw [ht]; exact hP, va_K.moved hW.alike hK, hD⟩, hS.F ht⟩) hS.2.2 (qaa qpL 3 rfl)))
      · have hw := hw.2 c5
        refine lv_iconst (v := 1) hx hb (qaa qpL 0 rfl) (by decide) ?_
        refine lv_goto (tgt := 35) hx hb (qaa qpL 1 rfl) (by decide) ?_
        exact ((W.zret (v := 1) hx hb hr rfl (fun t ht hW => ⟨⟨1, (), rfl, hw, by rw [ht]; exact hP, va_K.moved hW.alike hK, hD⟩, hS.F ht⟩) hS.2.2 (qaa qpL 3 rfl)))
theorem qte : ∀ w ∈ u_ws RX2 TX2 12, w ∈ wsX2_readForm := uiM qtN qLp (by decide +kernel)
theorem qaeO : (.fieldLink RX2 15 "MarchHares$Down" "formY" "[I" : Cond) ∈ wsX2_readForm := qtN 149 (by decide +kernel)
theorem qxs : (.fieldLink RX2 36 "MarchHares$Down" "forms" "I" : Cond) ∈ wsX2_readForm := qtN 720 (by decide +kernel)
theorem qai8 : (.fieldLink RX2 9 "MarchHares$Down" "formX" "[I" : Cond) ∈ wsX2_readForm := qtN 148 (by decide +kernel)
set_option maxHeartbeats 4000000 in
set_option maxRecDepth 100000 in
theorem qV1 {p : Program} {l : Launch} {e : Env} {s : State} {m : MethodId} {args : Array Value} {below : List Frame} {meth : Method} {c : Code} {A : Nat → Prop} (dC : Nat → ClassId) (dI : Nat → Nat → Nat) (cyB cyI cyJ cyP : ClassId) (a0 a1 jha jbF jhj : Nat) (jlc jld jkJ jiU jj1 jjT ja4 jaP jkk jcI : Value) (jb5 : Int32) (jcq : NI) (Q : Int32 → Int32 → Int32 → Int32 → NI → NI → Int32 → Prop) (C0 : cfx p s m args meth c cX2_readForm none wsX2_readForm RX2 3 A (dC, dI) (kT cyB cyI cyJ cyP)) : ∀ (H : Heap) (locs : List Loc) (ls : Array Slot) (jhS jcU jbM jeF : Int32) (jiS jiP : NI) (jaN : Int32), va_P (dC, dI) vwCl (qyT a0 jha jhj jlc jld jkJ jiU jj1 jjT jaN ja4 jaP jkk a1 jbF jb5 jhS jeF jcI jcU jbM jbF cyB jcq jha cyI jiS jhj cyI jiP) H → va_D A (qyT a0 jha jhj jlc jld jkJ jiU jj1 jjT jaN ja4 jaP jkk a1 jbF jb5 jhS jeF jcI jcU jbM jbF cyB jcq jha cyI jiS jhj cyI jiP) → va_S A s.heap H locs → lv_has ls 3 [(1, .ref a1)] → qCt jb5 jcq Q jhS jcU jbM jeF jiS jiP jaN → W p l e (headSpec wsX2_readForm ({ frames := 3, cells := 0, slots := 0, locals := 63 })).room s m args below meth c H locs 0 0 (MQ below (va_Qv (fun (u : Int32 × Int32 × Int32 × Int32 × NI × NI × Int32) => Q u.1 u.2.1 u.2.2.1 u.2.2.2.1 u.2.2.2.2.1 u.2.2.2.2.2.1 u.2.2.2.2.2.2) (cB (dC, dI) (kT cyB cyI cyJ cyP) A (fun u : Int32 × Int32 × Int32 × Int32 × NI × NI × Int32 => ((qyT a0 jha jhj jlc jld jkJ jiU jj1 jjT u.2.2.2.2.2.2 ja4 jaP jkk a1 jbF jb5 u.1 u.2.2.2.1 jcI u.2.1 u.2.2.1 jbF cyB jcq jha cyI u.2.2.2.2.1 jhj cyI u.2.2.2.2.2.1) : va_W))) A) args s 0 0 A) (F0 m 13 ls []) := by
  obtain ⟨hx, hb, hr, hts, hown, hlocks, hml, hA, hK, hNw⟩ := id C0
  intro H locs ls jhS jcU jbM jeF jiS jiP jaN hP hD hS hl hw
  refine lv_aload_n hx hb (qaa qfL 6 rfl) rfl (lv_at hl 0 rfl) ?_
  refine lv_iconst (v := 3) hx hb (qaa qfL 7 rfl) (by decide) ?_
  obtain ⟨hCc, hPc, hDc, hFc⟩ := qac (ws' := (qM1 a1 jbF jb5 jhS jeF jcI jcU jbM)) hP hD hS hA [1] (by decide +kernel) rfl
  refine va_callv (va_runV (As := [.int 3]) (rest := []) ⟨hx, hb, hml, hown, hts⟩ (qnW l dC dI cyB cyI cyJ cyP a1 H.size (.ref jbF) (.int jb5) (.int jhS) (jcI) jeF jcU jbM 3 hw) (cwV 1 hts gX2_readForm_X8_blameToken rfl rfl rfl (by decide +kernel) ⟨nbq rfl, nbq rfl⟩) ⟨qab, va_recv (q := (RX8, TX8, 7)) hK hPc (ci := 8) (q0 := 0) rfl rfl, qae hPc hK hDc hNw⟩ rfl rfl hl.1 rfl (lv_room (nbq rfl)) (qaa qfL 8 rfl) ⟨nbq rfl, nbq rfl⟩) hS (fun q _ h => hFc q h) hFc (fun u t H1 locs ht hvm hw hB hz1 hk1 hS => ?_)
  obtain ⟨x20, x21⟩ := u
  obtain ⟨hP1, hK1, hD1⟩ := hB
  rw [ht] at hP1
  obtain ⟨hP, hD⟩ := qad (wr := [(a0, .inr (2, [.ref jha, .ref jhj, jlc, jld, jkJ, jiU, jj1, jjT, .int jaN, ja4, jaP, jkk])), (jbF, .inl (cyB, 600, .inl jcq)), (jha, .inl (cyI, 8, .inl jiS)), (jhj, .inl (cyI, 8, .inl jiP))]) (w1 := (qM1 a1 jbF jb5 jhS jeF jcI x20 x21)) (wn := (qyT a0 jha jhj jlc jld jkJ jiU jj1 jjT jaN ja4 jaP jkk a1 jbF jb5 jhS jeF jcI x20 x21 jbF cyB jcq jha cyI jiS jhj cyI jiP)) hP hD [1] [0, 2, 3, 4] [0, 4, 1, 2, 3] hCc rfl (by decide +kernel) (by decide +kernel) (by decide +kernel) rfl hk1 hFc hP1 hD1
  generalize H1 = H at hP hS ⊢
  exact ((W.vret hx hb hr (fun t ht hW => ⟨⟨(jhS, x20, x21, jeF, jiS, jiP, jaN), rfl, hw, by rw [ht]; exact hP, va_K.moved hW.alike hK, hD⟩, hS.F ht⟩) hS.2.2 (qaa qfL 9 rfl)))
set_option maxHeartbeats 4000000 in
set_option maxRecDepth 100000 in
theorem qaFP (l : Launch) (dC : Nat → ClassId) (dI : Nat → Nat → Nat) (cyB cyI cyJ cyP : ClassId) (a0 a1 jha jbF jhj sz : Nat) (jlc jld jkJ jiU jj1 jjT ja4 jaP jkk jcI : Value) (jb5 : Int32) (jcq : NI) (jhS jcU jbM jeF : Int32) (jiS jiP : NI) (jaN p2 : Int32) {Q : Int32 → Int32 → Int32 → Int32 → NI → NI → Int32 → Prop} (hw : qUB jb5 jcq jhS jcU jbM jeF jiS jiP jaN p2 Q) : Met l yX2_readForm wsX2_readForm ({ frames := 3, cells := 0, slots := 0, locals := 63 }) (va_Pc [.ref a0, .ref a1, .int p2] (cPc (dC, dI) (kT cyB cyI cyJ cyP) (qyT a0 jha jhj jlc jld jkJ jiU jj1 jjT jaN ja4 jaP jkk a1 jbF jb5 jhS jeF jcI jcU jbM jbF cyB jcq jha cyI jiS jhj cyI jiP) sz)) (va_Qv (fun (u : Int32 × Int32 × Int32 × Int32 × NI × NI × Int32) => Q u.1 u.2.1 u.2.2.1 u.2.2.2.1 u.2.2.2.2.1 u.2.2.2.2.2.1 u.2.2.2.2.2.2) (cB (dC, dI) (kT cyB cyI cyJ cyP) (va_A (qyT a0 jha jhj jlc jld jkJ jiU jj1 jjT jaN ja4 jaP jkk a1 jbF jb5 jhS jeF jcI jcU jbM jbF cyB jcq jha cyI jiS jhj cyI jiP) sz) (fun u : Int32 × Int32 × Int32 × Int32 × NI × NI × Int32 => ((qyT a0 jha jhj jlc jld jkJ jiU jj1 jjT u.2.2.2.2.2.2 ja4 jaP jkk a1 jbF jb5 u.1 u.2.2.2.1 jcI u.2.1 u.2.2.1 jbF cyB jcq jha cyI u.2.2.2.2.1 jhj cyI u.2.2.2.2.2.1) : va_W))) (va_A (qyT a0 jha jhj jlc jld jkJ jiU jj1 jjT jaN ja4 jaP jkk a1 jbF jb5 jhS jeF jcI jcU jbM jbF cyB jcq jha cyI jiS jhj cyI jiP) sz)) 0 0 (va_A (qyT a0 jha jhj jlc jld jkJ jiU jj1 jjT jaN ja4 jaP jkk a1 jbF jb5 jhS jeF jcI jcU jbM jbF cyB jcq jha cyI jiS jhj cyI jiP) sz) := by
  refine Met.ofW (cc := cX2_readForm) (maxL := 3) (ret := none) (by decide) rfl ?_
  intro p e s m args below meth c s₁ B hml hv
  obtain ⟨rfl, hsz, hP, hK, hD0, hNw⟩ := hv
  have hx := B.exec
  have hb := B.bytes
  have hr := B.returns
  have hts := atoms_spec (ws := wsX2_readForm) B.pre
  have hown : s.vm.findClass RX2 = some m.cls := findClass_of_methodNamed B.named
  have hlocks := B.notSynchronized
  subst hsz
  have hD := hD0.self (sz := s.heap.size)
  generalize hAe : va_A (qyT a0 jha jhj jlc jld jkJ jiU jj1 jjT jaN ja4 jaP jkk a1 jbF jb5 jhS jeF jcI jcU jbM jbF cyB jcq jha cyI jiS jhj cyI jiP) s.heap.size = A at hD ⊢
  have hA : ∀ q : Nat, s.heap.size ≤ q → A q := fun q h => by rw [← hAe]; exact Or.inr h
  have hS : va_S A s.heap s.heap [] := va_S.rf
  have hP : va_P (dC, dI) vwCl (qyT a0 jha jhj jlc jld jkJ jiU jj1 jjT jaN ja4 jaP jkk a1 jbF jb5 jhS jeF jcI jcU jbM jbF cyB jcq jha cyI jiS jhj cyI jiP) s.heap := hP
  have hl := lv_entry ([.ref a0, .ref a1, .int p2]) (n := 3) (nbq rfl)
  rw [lg_entry_eq]
  generalize (lg_sl ([.ref a0, .ref a1, .int p2]) ++ List.replicate (3 - (lg_sl ([.ref a0, .ref a1, .int p2])).length) Slot.unset).toArray = ls at hl ⊢
  have hl : lv_has ls 3 [(0, .ref a0), (1, .ref a1), (2, .int p2)] := hl
  have C0 : cfx p s m _ meth c cX2_readForm none wsX2_readForm RX2 3 A (dC, dI) (kT cyB cyI cyJ cyP) := ⟨hx, hb, hr, hts, hown, hlocks, hml, hA, hK, hNw⟩
  clear hAe
  obtain ⟨H, hH⟩ : ∃ H, H = s.heap := ⟨_, rfl⟩
  rw [← hH] at hP ⊢
  have hS : va_S A s.heap H [] := by rw [hH]; exact va_S.rf
  have hS := hS
  refine lv_iload_n hx hb (qaa qfL 0 rfl) rfl (lv_at hl 2 rfl) ?_
  refine lv_if_ne (tgt := 13) hx hb (qaa qfL 1 rfl) (by decide) (fun c1 => ?_) (fun c1 => ?_)
  · have hw := hw.1 c1
    exact qV1 dC dI cyB cyI cyJ cyP a0 a1 jha jbF jhj jlc jld jkJ jiU jj1 jjT ja4 jaP jkk jcI jb5 jcq Q C0 _ _ _ jhS jcU jbM jeF jiS jiP jaN hP hD hS (lv_sub hl [1] rfl) hw
  · have hw := hw.2 c1
    refine lv_aload_n hx hb (qaa qfL 2 rfl) rfl (lv_at hl 0 rfl) ?_
    refine va_get (D := (dC, dI)) (ci := 2) (v := .int jaN) (C := RX2) (T := TX2) (N := 12) hx hb hts qte hown hK hP 0 rfl rfl 8 (by decide) (hts _ qxs) (fun _ h9 => h9) rfl (qaa qfL 3 rfl) ?_
    refine lv_bipush (v := 8) hx hb (qaa qfL 4 rfl) (by decide) ?_
    refine lv_icmp_lt (tgt := 19) hx hb (qaa qfL 5 rfl) (by decide) (fun c2 => ?_) (fun c2 => ?_)
    · have hw := hw.1 c2
      refine lv_aload_n hx hb (qaa qfL 10 rfl) rfl (lv_at hl 0 rfl) ?_
      refine va_get (D := (dC, dI)) (ci := 2) (v := .ref jha) (C := RX2) (T := TX2) (N := 12) hx hb hts qte hown hK hP 0 rfl rfl 0 (by decide) (hts _ qai8) (fun _ h9 => h9) rfl (qaa qfL 11 rfl) ?_
      refine lv_aload_n hx hb (qaa qfL 12 rfl) rfl (lv_at hl 0 rfl) ?_
      refine va_get (D := (dC, dI)) (ci := 2) (v := .int jaN) (C := RX2) (T := TX2) (N := 12) hx hb hts qte hown hK hP 0 rfl rfl 8 (by decide) (hts _ qxs) (fun _ h9 => h9) rfl (qaa qfL 13 rfl) ?_
      refine lv_aload_n hx hb (qaa qfL 14 rfl) rfl (lv_at hl 1 rfl) ?_
      refine lv_iconst (v := 0) hx hb (qaa qfL 15 rfl) (by decide) ?_
      refine lv_bipush (v := 30) hx hb (qaa qeo 0 rfl) (by decide) ?_
      obtain ⟨hCc, hPc, hDc, hFc⟩ := qac (ws' := (qtV a1 jbF jb5 jhS jeF jcI jcU jbM jbF cyB jcq)) hP hD hS hA [1, 2] (by decide +kernel) rfl
      refine va_calli (va_runV (As := [.int 0, .int 30]) (rest := [.int jaN, .ref jha]) ⟨hx, hb, hml, hown, hts⟩ (qh9 l dC dI cyB cyI cyJ cyP a1 jbF H.size (jcI) jb5 jcq jhS jcU jbM jeF 0 30 hw) (cwV 2 hts gX2_readForm_X8_number rfl rfl rfl (by decide +kernel) ⟨nbq rfl, nbq rfl⟩) ⟨qab, va_recv (q := (RX8, TX8, 7)) hK hPc (ci := 8) (q0 := 0) rfl rfl, qae hPc hK hDc hNw⟩ rfl rfl hl.1 rfl (lv_room (nbq rfl)) (qaa qeo 1 rfl) ⟨nbq rfl, nbq rfl⟩) hS (fun q _ h => hFc q h) hFc (fun r7 u t H1 locs ht hvm hw hB hz1 hk1 hS => ?_)
      obtain ⟨x3, x4, x5, x6⟩ := u
      obtain ⟨hP1, hK1, hD1⟩ := hB
      rw [ht] at hP1
      obtain ⟨hP, hD⟩ := qad (wr := (qaZ2 a0 jha jhj jlc jld jkJ jiU jj1 jjT jaN ja4 jaP jkk jha cyI jiS jhj cyI jiP)) (w1 := (qtV a1 jbF jb5 x3 x6 jcI x4 x5 jbF cyB jcq)) (wn := (qyT a0 jha jhj jlc jld jkJ jiU jj1 jjT jaN ja4 jaP jkk a1 jbF jb5 x3 x6 jcI x4 x5 jbF cyB jcq jha cyI jiS jhj cyI jiP)) hP hD [1, 2] [0, 3, 4] [0, 3, 4, 1, 2] hCc rfl (by decide +kernel) (by decide +kernel) (by decide +kernel) rfl hk1 hFc hP1 hD1
      generalize H1 = H at hP hS ⊢
      obtain ⟨hi9, hw⟩ := hw
      refine va_iast hx hb hK hP hD hS 3 1 rfl rfl hi9 (qaa qeo 2 rfl) (fun H locs hP hD hS => ?_)
      obtain ⟨f8, ef8⟩ : ∃ y : NI, y = upd jiS jaN.toNatClampNeg r7 := ⟨_, rfl⟩
      have hw := hw f8 ef8
      have hP : va_P (dC, dI) vwCl (qyT a0 jha jhj jlc jld jkJ jiU jj1 jjT jaN ja4 jaP jkk a1 jbF jb5 x3 x6 jcI x4 x5 jbF cyB jcq jha cyI f8 jhj cyI jiP) H := by rw [ef8]; exact hP
      have hD : va_D A (qyT a0 jha jhj jlc jld jkJ jiU jj1 jjT jaN ja4 jaP jkk a1 jbF jb5 x3 x6 jcI x4 x5 jbF cyB jcq jha cyI f8 jhj cyI jiP) := by rw [ef8]; exact hD
      refine lv_aload_n hx hb (qaa qeo 3 rfl) rfl (lv_at hl 0 rfl) ?_
      refine va_get (D := (dC, dI)) (ci := 2) (v := .ref jhj) (C := RX2) (T := TX2) (N := 12) hx hb hts qte hown hK hP 0 rfl rfl 1 (by decide) (hts _ qaeO) (fun _ h9 => h9) rfl (qaa qeo 4 rfl) ?_
      refine lv_aload_n hx hb (qaa qeo 5 rfl) rfl (lv_at hl 0 rfl) ?_
      refine va_get (D := (dC, dI)) (ci := 2) (v := .int jaN) (C := RX2) (T := TX2) (N := 12) hx hb hts qte hown hK hP 0 rfl rfl 8 (by decide) (hts _ qxs) (fun _ h9 => h9) rfl (qaa qeo 6 rfl) ?_
      refine lv_aload_n hx hb (qaa qeo 7 rfl) rfl (lv_at hl 1 rfl) ?_
      refine lv_iconst (v := 0) hx hb (qaa qeo 8 rfl) (by decide) ?_
      refine lv_bipush (v := 30) hx hb (qaa qeo 9 rfl) (by decide) ?_
      obtain ⟨hCc, hPc, hDc, hFc⟩ := qac (ws' := (qtV a1 jbF jb5 x3 x6 jcI x4 x5 jbF cyB jcq)) hP hD hS hA [1, 2] (by decide +kernel) rfl
      refine va_calli (va_runV (As := [.int 0, .int 30]) (rest := [.int jaN, .ref jhj]) ⟨hx, hb, hml, hown, hts⟩ (qh9 l dC dI cyB cyI cyJ cyP a1 jbF H.size (jcI) jb5 jcq x3 x4 x5 x6 0 30 hw) (cwV 2 hts gX2_readForm_X8_number rfl rfl rfl (by decide +kernel) ⟨nbq rfl, nbq rfl⟩) ⟨qab, va_recv (q := (RX8, TX8, 7)) hK hPc (ci := 8) (q0 := 0) rfl rfl, qae hPc hK hDc hNw⟩ rfl rfl hl.1 rfl (lv_room (nbq rfl)) (qaa qeo 10 rfl) ⟨nbq rfl, nbq rfl⟩) hS (fun q _ h => hFc q h) hFc (fun r13 u t H1 locs ht hvm hw hB hz1 hk1 hS => ?_)
      obtain ⟨x9, x10, x11, x12⟩ := u
      obtain ⟨hP1, hK1, hD1⟩ := hB
      rw [ht] at hP1
      obtain ⟨hP, hD⟩ := qad (wr := (qaZ2 a0 jha jhj jlc jld jkJ jiU jj1 jjT jaN ja4 jaP jkk jha cyI f8 jhj cyI jiP)) (w1 := (qtV a1 jbF jb5 x9 x12 jcI x10 x11 jbF cyB jcq)) (wn := (qyT a0 jha jhj jlc jld jkJ jiU jj1 jjT jaN ja4 jaP jkk a1 jbF jb5 x9 x12 jcI x10 x11 jbF cyB jcq jha cyI f8 jhj cyI jiP)) hP hD [1, 2] [0, 3, 4] [0, 3, 4, 1, 2] hCc rfl (by decide +kernel) (by decide +kernel) (by decide +kernel) rfl hk1 hFc hP1 hD1
      generalize H1 = H at hP hS ⊢
      obtain ⟨hi9, hw⟩ := hw
      refine va_iast hx hb hK hP hD hS 4 1 rfl rfl hi9 (qaa qeo 11 rfl) (fun H locs hP hD hS => ?_)
      obtain ⟨f14, ef14⟩ : ∃ y : NI, y = upd jiP jaN.toNatClampNeg r13 := ⟨_, rfl⟩
      have hw := hw f14 ef14
      have hP : va_P (dC, dI) vwCl (qyT a0 jha jhj jlc jld jkJ jiU jj1 jjT jaN ja4 jaP jkk a1 jbF jb5 x9 x12 jcI x10 x11 jbF cyB jcq jha cyI f8 jhj cyI f14) H := by rw [ef14]; exact hP
      have hD : va_D A (qyT a0 jha jhj jlc jld jkJ jiU jj1 jjT jaN ja4 jaP jkk a1 jbF jb5 x9 x12 jcI x10 x11 jbF cyB jcq jha cyI f8 jhj cyI f14) := by rw [ef14]; exact hD
      refine lv_aload_n hx hb (qaa qeo 12 rfl) rfl (lv_at hl 1 rfl) ?_
      refine lv_bipush (v := 59) hx hb (qaa qeo 13 rfl) (by decide) ?_
      obtain ⟨hCc, hPc, hDc, hFc⟩ := qac (ws' := (qtV a1 jbF jb5 x9 x12 jcI x10 x11 jbF cyB jcq)) hP hD hS hA [1, 2] (by decide +kernel) rfl
      refine va_callv (va_runV (As := [.int 59]) (rest := []) ⟨hx, hb, hml, hown, hts⟩ (qtg l dC dI cyB cyI cyJ cyP a1 jbF H.size (jcI) jb5 jcq x9 x12 x10 x11 59 hw) (cwV 1 hts gX2_readForm_X8_needs rfl rfl rfl (by decide +kernel) ⟨nbq rfl, nbq rfl⟩) ⟨qab, va_recv (q := (RX8, TX8, 7)) hK hPc (ci := 8) (q0 := 0) rfl rfl, qae hPc hK hDc hNw⟩ rfl rfl hl.1 rfl (lv_room (nbq rfl)) (qaa qeo 14 rfl) ⟨nbq rfl, nbq rfl⟩) hS (fun q _ h => hFc q h) hFc (fun u t H1 locs ht hvm hw hB hz1 hk1 hS => ?_)
      obtain ⟨x15, x16, x17, x18⟩ := u
      obtain ⟨hP1, hK1, hD1⟩ := hB
      rw [ht] at hP1
      obtain ⟨hP, hD⟩ := qad (wr := (qaZ2 a0 jha jhj jlc jld jkJ jiU jj1 jjT jaN ja4 jaP jkk jha cyI f8 jhj cyI f14)) (w1 := (qtV a1 jbF jb5 x15 x16 jcI x17 x18 jbF cyB jcq)) (wn := (qyT a0 jha jhj jlc jld jkJ jiU jj1 jjT jaN ja4 jaP jkk a1 jbF jb5 x15 x16 jcI x17 x18 jbF cyB jcq jha cyI f8 jhj cyI f14)) hP hD [1, 2] [0, 3, 4] [0, 3, 4, 1, 2] hCc rfl (by decide +kernel) (by decide +kernel) (by decide +kernel) rfl hk1 hFc hP1 hD1
      generalize H1 = H at hP hS ⊢
      refine lv_aload_n hx hb (qaa qeo 15 rfl) rfl (lv_at hl 0 rfl) ?_
      refine lv_dup hx hb (qaa qvG 0 rfl) rfl ?_
      refine va_get (D := (dC, dI)) (ci := 2) (v := .int jaN) (C := RX2) (T := TX2) (N := 12) hx hb hts qte hown hK hP 0 rfl rfl 8 (by decide) (hts _ qxs) (fun _ h9 => h9) rfl (qaa qvG 1 rfl) ?_
      refine lv_iconst (v := 1) hx hb (qaa qvG 2 rfl) (by decide) ?_
      refine lv_iadd hx hb (qaa qvG 3 rfl) ?_
      refine lv_topi (fun x19 ex19 => ?_)
      have hw := hw x19 ex19
      refine va_put (D := (dC, dI)) (ci := 2) (v := .int x19) (ty := .int) (C := RX2) (T := TX2) (N := 12) hx hb hts qte tyX2 tyX2_ok nmX2 hown hK hP hD hS 0 rfl rfl 8 (by decide) (hts _ qxs) (fun _ h9 => h9) rfl (by decide +kernel) rfl rfl (nbq rfl) (qaa qvG 4 rfl) (fun H locs hP hD hS => ?_)
      have hP : va_P (dC, dI) vwCl (qyT a0 jha jhj jlc jld jkJ jiU jj1 jjT x19 ja4 jaP jkk a1 jbF jb5 x15 x16 jcI x17 x18 jbF cyB jcq jha cyI f8 jhj cyI f14) H := hP
      have hD : va_D A (qyT a0 jha jhj jlc jld jkJ jiU jj1 jjT x19 ja4 jaP jkk a1 jbF jb5 x15 x16 jcI x17 x18 jbF cyB jcq jha cyI f8 jhj cyI f14) := hD
      exact ((W.vret hx hb hr (fun t ht hW => ⟨⟨(x15, x17, x18, x16, f8, f14, x19), rfl, hw, by rw [ht]; exact hP, va_K.moved hW.alike hK, hD⟩, hS.F ht⟩) hS.2.2 (qaa qvG 5 rfl)))
    · have hw := hw.2 c2
      exact qV1 dC dI cyB cyI cyJ cyP a0 a1 jha jbF jhj jlc jld jkJ jiU jj1 jjT ja4 jaP jkk jcI jb5 jcq Q C0 _ _ _ jhS jcU jbM jeF jiS jiP jaN hP hD hS (lv_sub hl [1] rfl) hw
theorem qrd : ∀ w ∈ u_ws RX2 TX2 12, w ∈ wsX2_readHare := uiM qsf qLp (by decide +kernel)
theorem qahU : (.fieldLink RX2 24 "MarchHares$Down" "seat" "[I" : Cond) ∈ wsX2_readHare := qsf 192 (by decide +kernel)
theorem qafs : (.fieldLink RX2 27 "MarchHares$Down" "strength" "[I" : Cond) ∈ wsX2_readHare := qsf 193 (by decide +kernel)
theorem qagD : (.fieldLink RX2 36 "MarchHares$Down" "forms" "I" : Cond) ∈ wsX2_readHare := qsf 720 (by decide +kernel)
theorem qwN : (.fieldLink RX2 40 "MarchHares$Down" "hares" "I" : Cond) ∈ wsX2_readHare := qsf 721 (by decide +kernel)
set_option maxHeartbeats 4000000 in
set_option maxRecDepth 100000 in
theorem qVB {p : Program} {l : Launch} {e : Env} {s : State} {m : MethodId} {args : Array Value} {below : List Frame} {meth : Method} {c : Code} {A : Nat → Prop} (dC : Nat → ClassId) (dI : Nat → Nat → Nat) (cyB cyI cyJ cyP : ClassId) (a0 a1 jla jbF jjy : Nat) (jmz jmA jlc jld jj1 jjT jaP jkk jcI : Value) (jaN jb5 : Int32) (jcq : NI) (Q : Int32 → Int32 → Int32 → Int32 → NI → NI → Int32 → Prop) (C0 : cfx p s m args meth c cX2_readHare none wsX2_readHare RX2 3 A (dC, dI) (kT cyB cyI cyJ cyP)) : ∀ (H : Heap) (locs : List Loc) (ls : Array Slot) (jhS jcU jbM jeF : Int32) (jms jlq : NI) (jaC : Int32), va_P (dC, dI) vwCl (qyk a0 jmz jmA jlc jld jla jjy jj1 jjT jaN jaC jaP jkk a1 jbF jb5 jhS jeF jcI jcU jbM jbF cyB jcq jla cyI jms jjy cyI jlq) H → va_D A (qyk a0 jmz jmA jlc jld jla jjy jj1 jjT jaN jaC jaP jkk a1 jbF jb5 jhS jeF jcI jcU jbM jbF cyB jcq jla cyI jms jjy cyI jlq) → va_S A s.heap H locs → lv_has ls 3 [(1, .ref a1)] → qCB jaN jb5 jcq Q jhS jcU jbM jeF jms jlq jaC → W p l e (headSpec wsX2_readHare ({ frames := 3, cells := 0, slots := 0, locals := 63 })).room s m args below meth c H locs 0 0 (MQ below (va_Qv (fun (u : Int32 × Int32 × Int32 × Int32 × NI × NI × Int32) => Q u.1 u.2.1 u.2.2.1 u.2.2.2.1 u.2.2.2.2.1 u.2.2.2.2.2.1 u.2.2.2.2.2.2) (cB (dC, dI) (kT cyB cyI cyJ cyP) A (fun u : Int32 × Int32 × Int32 × Int32 × NI × NI × Int32 => ((qyk a0 jmz jmA jlc jld jla jjy jj1 jjT jaN u.2.2.2.2.2.2 jaP jkk a1 jbF jb5 u.1 u.2.2.2.1 jcI u.2.1 u.2.2.1 jbF cyB jcq jla cyI u.2.2.2.2.1 jjy cyI u.2.2.2.2.2.1) : va_W))) A) args s 0 0 A) (F0 m 13 ls []) := by
  obtain ⟨hx, hb, hr, hts, hown, hlocks, hml, hA, hK, hNw⟩ := id C0
  intro H locs ls jhS jcU jbM jeF jms jlq jaC hP hD hS hl hw
  refine lv_aload_n hx hb (qaa qf7 6 rfl) rfl (lv_at hl 0 rfl) ?_
  refine lv_iconst (v := 3) hx hb (qaa qf7 7 rfl) (by decide) ?_
  obtain ⟨hCc, hPc, hDc, hFc⟩ := qac (ws' := (qM1 a1 jbF jb5 jhS jeF jcI jcU jbM)) hP hD hS hA [1] (by decide +kernel) rfl
  refine va_callv (va_runV (As := [.int 3]) (rest := []) ⟨hx, hb, hml, hown, hts⟩ (qnW l dC dI cyB cyI cyJ cyP a1 H.size (.ref jbF) (.int jb5) (.int jhS) (jcI) jeF jcU jbM 3 hw) (cwV 1 hts gX2_readHare_X8_blameToken rfl rfl rfl (by decide +kernel) ⟨nbq rfl, nbq rfl⟩) ⟨qab, va_recv (q := (RX8, TX8, 7)) hK hPc (ci := 8) (q0 := 0) rfl rfl, qae hPc hK hDc hNw⟩ rfl rfl hl.1 rfl (lv_room (nbq rfl)) (qaa qf7 8 rfl) ⟨nbq rfl, nbq rfl⟩) hS (fun q _ h => hFc q h) hFc (fun u t H1 locs ht hvm hw hB hz1 hk1 hS => ?_)
  obtain ⟨x20, x21⟩ := u
  obtain ⟨hP1, hK1, hD1⟩ := hB
  rw [ht] at hP1
  obtain ⟨hP, hD⟩ := qad (wr := [(a0, .inr (2, [jmz, jmA, jlc, jld, .ref jla, .ref jjy, jj1, jjT, .int jaN, .int jaC, jaP, jkk])), (jbF, .inl (cyB, 600, .inl jcq)), (jla, .inl (cyI, 6, .inl jms)), (jjy, .inl (cyI, 6, .inl jlq))]) (w1 := (qM1 a1 jbF jb5 jhS jeF jcI x20 x21)) (wn := (qyk a0 jmz jmA jlc jld jla jjy jj1 jjT jaN jaC jaP jkk a1 jbF jb5 jhS jeF jcI x20 x21 jbF cyB jcq jla cyI jms jjy cyI jlq)) hP hD [1] [0, 2, 3, 4] [0, 4, 1, 2, 3] hCc rfl (by decide +kernel) (by decide +kernel) (by decide +kernel) rfl hk1 hFc hP1 hD1
  generalize H1 = H at hP hS ⊢
  exact ((W.vret hx hb hr (fun t ht hW => ⟨⟨(jhS, x20, x21, jeF, jms, jlq, jaC), rfl, hw, by rw [ht]; exact hP, va_K.moved hW.alike hK, hD⟩, hS.F ht⟩) hS.2.2 (qaa qf7 9 rfl)))
set_option maxHeartbeats 4000000 in
set_option maxRecDepth 100000 in
theorem qaIM (l : Launch) (dC : Nat → ClassId) (dI : Nat → Nat → Nat) (cyB cyI cyJ cyP : ClassId) (a0 a1 jla jbF jjy sz : Nat) (jmz jmA jlc jld jj1 jjT jaP jkk jcI : Value) (jaN jb5 : Int32) (jcq : NI) (jhS jcU jbM jeF : Int32) (jms jlq : NI) (jaC p2 : Int32) {Q : Int32 → Int32 → Int32 → Int32 → NI → NI → Int32 → Prop} (hw : qTm jaN jb5 jcq jhS jcU jbM jeF jms jlq jaC p2 Q) : Met l yX2_readHare wsX2_readHare ({ frames := 3, cells := 0, slots := 0, locals := 63 }) (va_Pc [.ref a0, .ref a1, .int p2] (cPc (dC, dI) (kT cyB cyI cyJ cyP) (qyk a0 jmz jmA jlc jld jla jjy jj1 jjT jaN jaC jaP jkk a1 jbF jb5 jhS jeF jcI jcU jbM jbF cyB jcq jla cyI jms jjy cyI jlq) sz)) (va_Qv (fun (u : Int32 × Int32 × Int32 × Int32 × NI × NI × Int32) => Q u.1 u.2.1 u.2.2.1 u.2.2.2.1 u.2.2.2.2.1 u.2.2.2.2.2.1 u.2.2.2.2.2.2) (cB (dC, dI) (kT cyB cyI cyJ cyP) (va_A (qyk a0 jmz jmA jlc jld jla jjy jj1 jjT jaN jaC jaP jkk a1 jbF jb5 jhS jeF jcI jcU jbM jbF cyB jcq jla cyI jms jjy cyI jlq) sz) (fun u : Int32 × Int32 × Int32 × Int32 × NI × NI × Int32 => ((qyk a0 jmz jmA jlc jld jla jjy jj1 jjT jaN u.2.2.2.2.2.2 jaP jkk a1 jbF jb5 u.1 u.2.2.2.1 jcI u.2.1 u.2.2.1 jbF cyB jcq jla cyI u.2.2.2.2.1 jjy cyI u.2.2.2.2.2.1) : va_W))) (va_A (qyk a0 jmz jmA jlc jld jla jjy jj1 jjT jaN jaC jaP jkk a1 jbF jb5 jhS jeF jcI jcU jbM jbF cyB jcq jla cyI jms jjy cyI jlq) sz)) 0 0 (va_A (qyk a0 jmz jmA jlc jld jla jjy jj1 jjT jaN jaC jaP jkk a1 jbF jb5 jhS jeF jcI jcU jbM jbF cyB jcq jla cyI jms jjy cyI jlq) sz) := by
  refine Met.ofW (cc := cX2_readHare) (maxL := 3) (ret := none) (by decide) rfl ?_
  intro p e s m args below meth c s₁ B hml hv
  obtain ⟨rfl, hsz, hP, hK, hD0, hNw⟩ := hv
  have hx := B.exec
  have hb := B.bytes
  have hr := B.returns
  have hts := atoms_spec (ws := wsX2_readHare) B.pre
  have hown : s.vm.findClass RX2 = some m.cls := findClass_of_methodNamed B.named
  have hlocks := B.notSynchronized
  subst hsz
  have hD := hD0.self (sz := s.heap.size)
  generalize hAe : va_A (qyk a0 jmz jmA jlc jld jla jjy jj1 jjT jaN jaC jaP jkk a1 jbF jb5 jhS jeF jcI jcU jbM jbF cyB jcq jla cyI jms jjy cyI jlq) s.heap.size = A at hD ⊢
  have hA : ∀ q : Nat, s.heap.size ≤ q → A q := fun q h => by rw [← hAe]; exact Or.inr h
  have hS : va_S A s.heap s.heap [] := va_S.rf
  have hP : va_P (dC, dI) vwCl (qyk a0 jmz jmA jlc jld jla jjy jj1 jjT jaN jaC jaP jkk a1 jbF jb5 jhS jeF jcI jcU jbM jbF cyB jcq jla cyI jms jjy cyI jlq) s.heap := hP
  have hl := lv_entry ([.ref a0, .ref a1, .int p2]) (n := 3) (nbq rfl)
  rw [lg_entry_eq]
  generalize (lg_sl ([.ref a0, .ref a1, .int p2]) ++ List.replicate (3 - (lg_sl ([.ref a0, .ref a1, .int p2])).length) Slot.unset).toArray = ls at hl ⊢
  have hl : lv_has ls 3 [(0, .ref a0), (1, .ref a1), (2, .int p2)] := hl
  have C0 : cfx p s m _ meth c cX2_readHare none wsX2_readHare RX2 3 A (dC, dI) (kT cyB cyI cyJ cyP) := ⟨hx, hb, hr, hts, hown, hlocks, hml, hA, hK, hNw⟩
  clear hAe
  obtain ⟨H, hH⟩ : ∃ H, H = s.heap := ⟨_, rfl⟩
  rw [← hH] at hP ⊢
  have hS : va_S A s.heap H [] := by rw [hH]; exact va_S.rf
  have hS := hS
  refine lv_iload_n hx hb (qaa qf7 0 rfl) rfl (lv_at hl 2 rfl) ?_
  refine lv_if_ne (tgt := 13) hx hb (qaa qf7 1 rfl) (by decide) (fun c1 => ?_) (fun c1 => ?_)
  · have hw := hw.1 c1
    exact qVB dC dI cyB cyI cyJ cyP a0 a1 jla jbF jjy jmz jmA jlc jld jj1 jjT jaP jkk jcI jaN jb5 jcq Q C0 _ _ _ jhS jcU jbM jeF jms jlq jaC hP hD hS (lv_sub hl [1] rfl) hw
  · have hw := hw.2 c1
    refine lv_aload_n hx hb (qaa qf7 2 rfl) rfl (lv_at hl 0 rfl) ?_
    refine va_get (D := (dC, dI)) (ci := 2) (v := .int jaC) (C := RX2) (T := TX2) (N := 12) hx hb hts qrd hown hK hP 0 rfl rfl 9 (by decide) (hts _ qwN) (fun _ h9 => h9) rfl (qaa qf7 3 rfl) ?_
    refine lv_bipush (v := 6) hx hb (qaa qf7 4 rfl) (by decide) ?_
    refine lv_icmp_lt (tgt := 19) hx hb (qaa qf7 5 rfl) (by decide) (fun c2 => ?_) (fun c2 => ?_)
    · have hw := hw.1 c2
      refine lv_aload_n hx hb (qaa qf7 10 rfl) rfl (lv_at hl 0 rfl) ?_
      refine va_get (D := (dC, dI)) (ci := 2) (v := .ref jla) (C := RX2) (T := TX2) (N := 12) hx hb hts qrd hown hK hP 0 rfl rfl 4 (by decide) (hts _ qahU) (fun _ h9 => h9) rfl (qaa qf7 11 rfl) ?_
      refine lv_aload_n hx hb (qaa qf7 12 rfl) rfl (lv_at hl 0 rfl) ?_
      refine va_get (D := (dC, dI)) (ci := 2) (v := .int jaC) (C := RX2) (T := TX2) (N := 12) hx hb hts qrd hown hK hP 0 rfl rfl 9 (by decide) (hts _ qwN) (fun _ h9 => h9) rfl (qaa qf7 13 rfl) ?_
      refine lv_aload_n hx hb (qaa qf7 14 rfl) rfl (lv_at hl 1 rfl) ?_
      refine lv_iconst (v := 0) hx hb (qaa qf7 15 rfl) (by decide) ?_
      refine lv_aload_n hx hb (qaa qey 0 rfl) rfl (lv_at hl 0 rfl) ?_
      refine va_get (D := (dC, dI)) (ci := 2) (v := .int jaN) (C := RX2) (T := TX2) (N := 12) hx hb hts qrd hown hK hP 0 rfl rfl 8 (by decide) (hts _ qagD) (fun _ h9 => h9) rfl (qaa qey 1 rfl) ?_
      refine lv_iconst (v := 1) hx hb (qaa qey 2 rfl) (by decide) ?_
      refine lv_isub hx hb (qaa qey 3 rfl) ?_
      obtain ⟨hCc, hPc, hDc, hFc⟩ := qac (ws' := (qtV a1 jbF jb5 jhS jeF jcI jcU jbM jbF cyB jcq)) hP hD hS hA [1, 2] (by decide +kernel) rfl
      refine va_calli (va_runV (As := [.int 0, .int (jaN - 1)]) (rest := [.int jaC, .ref jla]) ⟨hx, hb, hml, hown, hts⟩ (qh9 l dC dI cyB cyI cyJ cyP a1 jbF H.size (jcI) jb5 jcq jhS jcU jbM jeF 0 (jaN - 1) hw) (cwV 2 hts gX2_readHare_X8_number rfl rfl rfl (by decide +kernel) ⟨nbq rfl, nbq rfl⟩) ⟨qab, va_recv (q := (RX8, TX8, 7)) hK hPc (ci := 8) (q0 := 0) rfl rfl, qae hPc hK hDc hNw⟩ rfl rfl hl.1 rfl (lv_room (nbq rfl)) (qaa qey 4 rfl) ⟨nbq rfl, nbq rfl⟩) hS (fun q _ h => hFc q h) hFc (fun r7 u t H1 locs ht hvm hw hB hz1 hk1 hS => ?_)
      obtain ⟨x3, x4, x5, x6⟩ := u
      obtain ⟨hP1, hK1, hD1⟩ := hB
      rw [ht] at hP1
      obtain ⟨hP, hD⟩ := qad (wr := (qaYZ a0 jmz jmA jlc jld jla jjy jj1 jjT jaN jaC jaP jkk jla cyI jms jjy cyI jlq)) (w1 := (qtV a1 jbF jb5 x3 x6 jcI x4 x5 jbF cyB jcq)) (wn := (qyk a0 jmz jmA jlc jld jla jjy jj1 jjT jaN jaC jaP jkk a1 jbF jb5 x3 x6 jcI x4 x5 jbF cyB jcq jla cyI jms jjy cyI jlq)) hP hD [1, 2] [0, 3, 4] [0, 3, 4, 1, 2] hCc rfl (by decide +kernel) (by decide +kernel) (by decide +kernel) rfl hk1 hFc hP1 hD1
      generalize H1 = H at hP hS ⊢
      obtain ⟨hi9, hw⟩ := hw
      refine va_iast hx hb hK hP hD hS 3 1 rfl rfl hi9 (qaa qey 5 rfl) (fun H locs hP hD hS => ?_)
      obtain ⟨f8, ef8⟩ : ∃ y : NI, y = upd jms jaC.toNatClampNeg r7 := ⟨_, rfl⟩
      have hw := hw f8 ef8
      have hP : va_P (dC, dI) vwCl (qyk a0 jmz jmA jlc jld jla jjy jj1 jjT jaN jaC jaP jkk a1 jbF jb5 x3 x6 jcI x4 x5 jbF cyB jcq jla cyI f8 jjy cyI jlq) H := by rw [ef8]; exact hP
      have hD : va_D A (qyk a0 jmz jmA jlc jld jla jjy jj1 jjT jaN jaC jaP jkk a1 jbF jb5 x3 x6 jcI x4 x5 jbF cyB jcq jla cyI f8 jjy cyI jlq) := by rw [ef8]; exact hD
      refine lv_aload_n hx hb (qaa qey 6 rfl) rfl (lv_at hl 0 rfl) ?_
      refine va_get (D := (dC, dI)) (ci := 2) (v := .ref jjy) (C := RX2) (T := TX2) (N := 12) hx hb hts qrd hown hK hP 0 rfl rfl 5 (by decide) (hts _ qafs) (fun _ h9 => h9) rfl (qaa qey 7 rfl) ?_
      refine lv_aload_n hx hb (qaa qey 8 rfl) rfl (lv_at hl 0 rfl) ?_
      refine va_get (D := (dC, dI)) (ci := 2) (v := .int jaC) (C := RX2) (T := TX2) (N := 12) hx hb hts qrd hown hK hP 0 rfl rfl 9 (by decide) (hts _ qwN) (fun _ h9 => h9) rfl (qaa qey 9 rfl) ?_
      refine lv_aload_n hx hb (qaa qey 10 rfl) rfl (lv_at hl 1 rfl) ?_
      refine lv_iconst (v := 1) hx hb (qaa qey 11 rfl) (by decide) ?_
      refine lv_bipush (v := 9) hx hb (qaa qey 12 rfl) (by decide) ?_
      obtain ⟨hCc, hPc, hDc, hFc⟩ := qac (ws' := (qtV a1 jbF jb5 x3 x6 jcI x4 x5 jbF cyB jcq)) hP hD hS hA [1, 2] (by decide +kernel) rfl
      refine va_calli (va_runV (As := [.int 1, .int 9]) (rest := [.int jaC, .ref jjy]) ⟨hx, hb, hml, hown, hts⟩ (qh9 l dC dI cyB cyI cyJ cyP a1 jbF H.size (jcI) jb5 jcq x3 x4 x5 x6 1 9 hw) (cwV 2 hts gX2_readHare_X8_number rfl rfl rfl (by decide +kernel) ⟨nbq rfl, nbq rfl⟩) ⟨qab, va_recv (q := (RX8, TX8, 7)) hK hPc (ci := 8) (q0 := 0) rfl rfl, qae hPc hK hDc hNw⟩ rfl rfl hl.1 rfl (lv_room (nbq rfl)) (qaa qey 13 rfl) ⟨nbq rfl, nbq rfl⟩) hS (fun q _ h => hFc q h) hFc (fun r13 u t H1 locs ht hvm hw hB hz1 hk1 hS => ?_)
      obtain ⟨x9, x10, x11, x12⟩ := u
      obtain ⟨hP1, hK1, hD1⟩ := hB
      rw [ht] at hP1
      obtain ⟨hP, hD⟩ := qad (wr := (qaYZ a0 jmz jmA jlc jld jla jjy jj1 jjT jaN jaC jaP jkk jla cyI f8 jjy cyI jlq)) (w1 := (qtV a1 jbF jb5 x9 x12 jcI x10 x11 jbF cyB jcq)) (wn := (qyk a0 jmz jmA jlc jld jla jjy jj1 jjT jaN jaC jaP jkk a1 jbF jb5 x9 x12 jcI x10 x11 jbF cyB jcq jla cyI f8 jjy cyI jlq)) hP hD [1, 2] [0, 3, 4] [0, 3, 4, 1, 2] hCc rfl (by decide +kernel) (by decide +kernel) (by decide +kernel) rfl hk1 hFc hP1 hD1
      generalize H1 = H at hP hS ⊢
      obtain ⟨hi9, hw⟩ := hw
      refine va_iast hx hb hK hP hD hS 4 1 rfl rfl hi9 (qaa qey 14 rfl) (fun H locs hP hD hS => ?_)
      obtain ⟨f14, ef14⟩ : ∃ y : NI, y = upd jlq jaC.toNatClampNeg r13 := ⟨_, rfl⟩
      have hw := hw f14 ef14
      have hP : va_P (dC, dI) vwCl (qyk a0 jmz jmA jlc jld jla jjy jj1 jjT jaN jaC jaP jkk a1 jbF jb5 x9 x12 jcI x10 x11 jbF cyB jcq jla cyI f8 jjy cyI f14) H := by rw [ef14]; exact hP
      have hD : va_D A (qyk a0 jmz jmA jlc jld jla jjy jj1 jjT jaN jaC jaP jkk a1 jbF jb5 x9 x12 jcI x10 x11 jbF cyB jcq jla cyI f8 jjy cyI f14) := by rw [ef14]; exact hD
      refine lv_aload_n hx hb (qaa qey 15 rfl) rfl (lv_at hl 1 rfl) ?_
      refine lv_bipush (v := 59) hx hb (qaa qpK 0 rfl) (by decide) ?_
      obtain ⟨hCc, hPc, hDc, hFc⟩ := qac (ws' := (qtV a1 jbF jb5 x9 x12 jcI x10 x11 jbF cyB jcq)) hP hD hS hA [1, 2] (by decide +kernel) rfl
      refine va_callv (va_runV (As := [.int 59]) (rest := []) ⟨hx, hb, hml, hown, hts⟩ (qtg l dC dI cyB cyI cyJ cyP a1 jbF H.size (jcI) jb5 jcq x9 x12 x10 x11 59 hw) (cwV 1 hts gX2_readHare_X8_needs rfl rfl rfl (by decide +kernel) ⟨nbq rfl, nbq rfl⟩) ⟨qab, va_recv (q := (RX8, TX8, 7)) hK hPc (ci := 8) (q0 := 0) rfl rfl, qae hPc hK hDc hNw⟩ rfl rfl hl.1 rfl (lv_room (nbq rfl)) (qaa qpK 1 rfl) ⟨nbq rfl, nbq rfl⟩) hS (fun q _ h => hFc q h) hFc (fun u t H1 locs ht hvm hw hB hz1 hk1 hS => ?_)
      obtain ⟨x15, x16, x17, x18⟩ := u
      obtain ⟨hP1, hK1, hD1⟩ := hB
      rw [ht] at hP1
      obtain ⟨hP, hD⟩ := qad (wr := (qaYZ a0 jmz jmA jlc jld jla jjy jj1 jjT jaN jaC jaP jkk jla cyI f8 jjy cyI f14)) (w1 := (qtV a1 jbF jb5 x15 x16 jcI x17 x18 jbF cyB jcq)) (wn := (qyk a0 jmz jmA jlc jld jla jjy jj1 jjT jaN jaC jaP jkk a1 jbF jb5 x15 x16 jcI x17 x18 jbF cyB jcq jla cyI f8 jjy cyI f14)) hP hD [1, 2] [0, 3, 4] [0, 3, 4, 1, 2] hCc rfl (by decide +kernel) (by decide +kernel) (by decide +kernel) rfl hk1 hFc hP1 hD1
      generalize H1 = H at hP hS ⊢
      refine lv_aload_n hx hb (qaa qpK 2 rfl) rfl (lv_at hl 0 rfl) ?_
      refine lv_dup hx hb (qaa qpK 3 rfl) rfl ?_
      refine va_get (D := (dC, dI)) (ci := 2) (v := .int jaC) (C := RX2) (T := TX2) (N := 12) hx hb hts qrd hown hK hP 0 rfl rfl 9 (by decide) (hts _ qwN) (fun _ h9 => h9) rfl (qaa qpK 4 rfl) ?_
      refine lv_iconst (v := 1) hx hb (qaa qpK 5 rfl) (by decide) ?_
      refine lv_iadd hx hb (qaa qpK 6 rfl) ?_
      refine lv_topi (fun x19 ex19 => ?_)
      have hw := hw x19 ex19
      refine va_put (D := (dC, dI)) (ci := 2) (v := .int x19) (ty := .int) (C := RX2) (T := TX2) (N := 12) hx hb hts qrd tyX2 tyX2_ok nmX2 hown hK hP hD hS 0 rfl rfl 9 (by decide) (hts _ qwN) (fun _ h9 => h9) rfl (by decide +kernel) rfl rfl (nbq rfl) (qaa qpK 7 rfl) (fun H locs hP hD hS => ?_)
      have hP : va_P (dC, dI) vwCl (qyk a0 jmz jmA jlc jld jla jjy jj1 jjT jaN x19 jaP jkk a1 jbF jb5 x15 x16 jcI x17 x18 jbF cyB jcq jla cyI f8 jjy cyI f14) H := hP
      have hD : va_D A (qyk a0 jmz jmA jlc jld jla jjy jj1 jjT jaN x19 jaP jkk a1 jbF jb5 x15 x16 jcI x17 x18 jbF cyB jcq jla cyI f8 jjy cyI f14) := hD
      exact ((W.vret hx hb hr (fun t ht hW => ⟨⟨(x15, x17, x18, x16, f8, f14, x19), rfl, hw, by rw [ht]; exact hP, va_K.moved hW.alike hK, hD⟩, hS.F ht⟩) hS.2.2 (qaa qpK 8 rfl)))
    · have hw := hw.2 c2
      exact qVB dC dI cyB cyI cyJ cyP a0 a1 jla jbF jjy jmz jmA jlc jld jj1 jjT jaP jkk jcI jaN jb5 jcq Q C0 _ _ _ jhS jcU jbM jeF jms jlq jaC hP hD hS (lv_sub hl [1] rfl) hw
theorem quH : ∀ w ∈ u_ws RX2 TX2 12, w ∈ wsX2_readFox := uiM qve qLp (by decide +kernel)
theorem qalC : (.fieldLink RX2 18 "MarchHares$Down" "foxX" "[I" : Cond) ∈ wsX2_readFox := qve 150 (by decide +kernel)
theorem qanu : (.fieldLink RX2 21 "MarchHares$Down" "foxY" "[I" : Cond) ∈ wsX2_readFox := qve 151 (by decide +kernel)
theorem qyB : (.fieldLink RX2 43 "MarchHares$Down" "foxes" "I" : Cond) ∈ wsX2_readFox := qve 722 (by decide +kernel)
set_option maxHeartbeats 4000000 in
set_option maxRecDepth 100000 in
theorem qZv {p : Program} {l : Launch} {e : Env} {s : State} {m : MethodId} {args : Array Value} {below : List Frame} {meth : Method} {c : Code} {A : Nat → Prop} (dC : Nat → ClassId) (dI : Nat → Nat → Nat) (cyB cyI cyJ cyP : ClassId) (a0 a1 jjQ jbF jjU : Nat) (jmz jmA jkJ jiU jj1 jjT ja0 ja4 jkk jcI : Value) (jb5 : Int32) (jcq : NI) (Q : Int32 → Int32 → Int32 → Int32 → NI → NI → Int32 → Prop) (C0 : cfx p s m args meth c cX2_readFox none wsX2_readFox RX2 3 A (dC, dI) (kT cyB cyI cyJ cyP)) : ∀ (H : Heap) (locs : List Loc) (ls : Array Slot) (jhS jcU jbM jeF : Int32) (jlB jlx : NI) (jbw : Int32), va_P (dC, dI) vwCl (qy1 a0 jmz jmA jjQ jjU jkJ jiU jj1 jjT ja0 ja4 jbw jkk a1 jbF jb5 jhS jeF jcI jcU jbM jbF cyB jcq jjQ cyI jlB jjU cyI jlx) H → va_D A (qy1 a0 jmz jmA jjQ jjU jkJ jiU jj1 jjT ja0 ja4 jbw jkk a1 jbF jb5 jhS jeF jcI jcU jbM jbF cyB jcq jjQ cyI jlB jjU cyI jlx) → va_S A s.heap H locs → lv_has ls 3 [(1, .ref a1)] → qE3 jb5 jcq Q jhS jcU jbM jeF jlB jlx jbw → W p l e (headSpec wsX2_readFox ({ frames := 3, cells := 0, slots := 0, locals := 63 })).room s m args below meth c H locs 0 0 (MQ below (va_Qv (fun (u : Int32 × Int32 × Int32 × Int32 × NI × NI × Int32) => Q u.1 u.2.1 u.2.2.1 u.2.2.2.1 u.2.2.2.2.1 u.2.2.2.2.2.1 u.2.2.2.2.2.2) (cB (dC, dI) (kT cyB cyI cyJ cyP) A (fun u : Int32 × Int32 × Int32 × Int32 × NI × NI × Int32 => ((qy1 a0 jmz jmA jjQ jjU jkJ jiU jj1 jjT ja0 ja4 u.2.2.2.2.2.2 jkk a1 jbF jb5 u.1 u.2.2.2.1 jcI u.2.1 u.2.2.1 jbF cyB jcq jjQ cyI u.2.2.2.2.1 jjU cyI u.2.2.2.2.2.1) : va_W))) A) args s 0 0 A) (F0 m 12 ls []) := by
  obtain ⟨hx, hb, hr, hts, hown, hlocks, hml, hA, hK, hNw⟩ := id C0
  intro H locs ls jhS jcU jbM jeF jlB jlx jbw hP hD hS hl hw
  refine lv_aload_n hx hb (qaa qho 6 rfl) rfl (lv_at hl 0 rfl) ?_
  refine lv_iconst (v := 3) hx hb (qaa qho 7 rfl) (by decide) ?_
  obtain ⟨hCc, hPc, hDc, hFc⟩ := qac (ws' := (qM1 a1 jbF jb5 jhS jeF jcI jcU jbM)) hP hD hS hA [1] (by decide +kernel) rfl
  refine va_callv (va_runV (As := [.int 3]) (rest := []) ⟨hx, hb, hml, hown, hts⟩ (qnW l dC dI cyB cyI cyJ cyP a1 H.size (.ref jbF) (.int jb5) (.int jhS) (jcI) jeF jcU jbM 3 hw) (cwV 1 hts gX2_readFox_X8_blameToken rfl rfl rfl (by decide +kernel) ⟨nbq rfl, nbq rfl⟩) ⟨qab, va_recv (q := (RX8, TX8, 7)) hK hPc (ci := 8) (q0 := 0) rfl rfl, qae hPc hK hDc hNw⟩ rfl rfl hl.1 rfl (lv_room (nbq rfl)) (qaa qho 8 rfl) ⟨nbq rfl, nbq rfl⟩) hS (fun q _ h => hFc q h) hFc (fun u t H1 locs ht hvm hw hB hz1 hk1 hS => ?_)
  obtain ⟨x20, x21⟩ := u
  obtain ⟨hP1, hK1, hD1⟩ := hB
  rw [ht] at hP1
  obtain ⟨hP, hD⟩ := qad (wr := [(a0, .inr (2, [jmz, jmA, .ref jjQ, .ref jjU, jkJ, jiU, jj1, jjT, ja0, ja4, .int jbw, jkk])), (jbF, .inl (cyB, 600, .inl jcq)), (jjQ, .inl (cyI, 4, .inl jlB)), (jjU, .inl (cyI, 4, .inl jlx))]) (w1 := (qM1 a1 jbF jb5 jhS jeF jcI x20 x21)) (wn := (qy1 a0 jmz jmA jjQ jjU jkJ jiU jj1 jjT ja0 ja4 jbw jkk a1 jbF jb5 jhS jeF jcI x20 x21 jbF cyB jcq jjQ cyI jlB jjU cyI jlx)) hP hD [1] [0, 2, 3, 4] [0, 4, 1, 2, 3] hCc rfl (by decide +kernel) (by decide +kernel) (by decide +kernel) rfl hk1 hFc hP1 hD1
  generalize H1 = H at hP hS ⊢
  exact ((W.vret hx hb hr (fun t ht hW => ⟨⟨(jhS, x20, x21, jeF, jlB, jlx, jbw), rfl, hw, by rw [ht]; exact hP, va_K.moved hW.alike hK, hD⟩, hS.F ht⟩) hS.2.2 (qaa qho 9 rfl)))
set_option maxHeartbeats 4000000 in
set_option maxRecDepth 100000 in
theorem qaNL (l : Launch) (dC : Nat → ClassId) (dI : Nat → Nat → Nat) (cyB cyI cyJ cyP : ClassId) (a0 a1 jjQ jbF jjU sz : Nat) (jmz jmA jkJ jiU jj1 jjT ja0 ja4 jkk jcI : Value) (jb5 : Int32) (jcq : NI) (jhS jcU jbM jeF : Int32) (jlB jlx : NI) (jbw p2 : Int32) {Q : Int32 → Int32 → Int32 → Int32 → NI → NI → Int32 → Prop} (hw : qXN jb5 jcq jhS jcU jbM jeF jlB jlx jbw p2 Q) : Met l yX2_readFox wsX2_readFox ({ frames := 3, cells := 0, slots := 0, locals := 63 }) (va_Pc [.ref a0, .ref a1, .int p2] (cPc (dC, dI) (kT cyB cyI cyJ cyP) (qy1 a0 jmz jmA jjQ jjU jkJ jiU jj1 jjT ja0 ja4 jbw jkk a1 jbF jb5 jhS jeF jcI jcU jbM jbF cyB jcq jjQ cyI jlB jjU cyI jlx) sz)) (va_Qv (fun (u : Int32 × Int32 × Int32 × Int32 × NI × NI × Int32) => Q u.1 u.2.1 u.2.2.1 u.2.2.2.1 u.2.2.2.2.1 u.2.2.2.2.2.1 u.2.2.2.2.2.2) (cB (dC, dI) (kT cyB cyI cyJ cyP) (va_A (qy1 a0 jmz jmA jjQ jjU jkJ jiU jj1 jjT ja0 ja4 jbw jkk a1 jbF jb5 jhS jeF jcI jcU jbM jbF cyB jcq jjQ cyI jlB jjU cyI jlx) sz) (fun u : Int32 × Int32 × Int32 × Int32 × NI × NI × Int32 => ((qy1 a0 jmz jmA jjQ jjU jkJ jiU jj1 jjT ja0 ja4 u.2.2.2.2.2.2 jkk a1 jbF jb5 u.1 u.2.2.2.1 jcI u.2.1 u.2.2.1 jbF cyB jcq jjQ cyI u.2.2.2.2.1 jjU cyI u.2.2.2.2.2.1) : va_W))) (va_A (qy1 a0 jmz jmA jjQ jjU jkJ jiU jj1 jjT ja0 ja4 jbw jkk a1 jbF jb5 jhS jeF jcI jcU jbM jbF cyB jcq jjQ cyI jlB jjU cyI jlx) sz)) 0 0 (va_A (qy1 a0 jmz jmA jjQ jjU jkJ jiU jj1 jjT ja0 ja4 jbw jkk a1 jbF jb5 jhS jeF jcI jcU jbM jbF cyB jcq jjQ cyI jlB jjU cyI jlx) sz) := by
  refine Met.ofW (cc := cX2_readFox) (maxL := 3) (ret := none) (by decide) rfl ?_
  intro p e s m args below meth c s₁ B hml hv
  obtain ⟨rfl, hsz, hP, hK, hD0, hNw⟩ := hv
  have hx := B.exec
  have hb := B.bytes
  have hr := B.returns
  have hts := atoms_spec (ws := wsX2_readFox) B.pre
  have hown : s.vm.findClass RX2 = some m.cls := findClass_of_methodNamed B.named
  have hlocks := B.notSynchronized
  subst hsz
  have hD := hD0.self (sz := s.heap.size)
  generalize hAe : va_A (qy1 a0 jmz jmA jjQ jjU jkJ jiU jj1 jjT ja0 ja4 jbw jkk a1 jbF jb5 jhS jeF jcI jcU jbM jbF cyB jcq jjQ cyI jlB jjU cyI jlx) s.heap.size = A at hD ⊢
  have hA : ∀ q : Nat, s.heap.size ≤ q → A q := fun q h => by rw [← hAe]; exact Or.inr h
  have hS : va_S A s.heap s.heap [] := va_S.rf
  have hP : va_P (dC, dI) vwCl (qy1 a0 jmz jmA jjQ jjU jkJ jiU jj1 jjT ja0 ja4 jbw jkk a1 jbF jb5 jhS jeF jcI jcU jbM jbF cyB jcq jjQ cyI jlB jjU cyI jlx) s.heap := hP
  have hl := lv_entry ([.ref a0, .ref a1, .int p2]) (n := 3) (nbq rfl)
  rw [lg_entry_eq]
  generalize (lg_sl ([.ref a0, .ref a1, .int p2]) ++ List.replicate (3 - (lg_sl ([.ref a0, .ref a1, .int p2])).length) Slot.unset).toArray = ls at hl ⊢
  have hl : lv_has ls 3 [(0, .ref a0), (1, .ref a1), (2, .int p2)] := hl
  have C0 : cfx p s m _ meth c cX2_readFox none wsX2_readFox RX2 3 A (dC, dI) (kT cyB cyI cyJ cyP) := ⟨hx, hb, hr, hts, hown, hlocks, hml, hA, hK, hNw⟩
  clear hAe
  obtain ⟨H, hH⟩ : ∃ H, H = s.heap := ⟨_, rfl⟩
  rw [← hH] at hP ⊢
  have hS : va_S A s.heap H [] := by rw [hH]; exact va_S.rf
  have hS := hS
  refine lv_iload_n hx hb (qaa qho 0 rfl) rfl (lv_at hl 2 rfl) ?_
  refine lv_if_ne (tgt := 12) hx hb (qaa qho 1 rfl) (by decide) (fun c1 => ?_) (fun c1 => ?_)
  · have hw := hw.1 c1
    exact qZv dC dI cyB cyI cyJ cyP a0 a1 jjQ jbF jjU jmz jmA jkJ jiU jj1 jjT ja0 ja4 jkk jcI jb5 jcq Q C0 _ _ _ jhS jcU jbM jeF jlB jlx jbw hP hD hS (lv_sub hl [1] rfl) hw
  · have hw := hw.2 c1
    refine lv_aload_n hx hb (qaa qho 2 rfl) rfl (lv_at hl 0 rfl) ?_
    refine va_get (D := (dC, dI)) (ci := 2) (v := .int jbw) (C := RX2) (T := TX2) (N := 12) hx hb hts quH hown hK hP 0 rfl rfl 10 (by decide) (hts _ qyB) (fun _ h9 => h9) rfl (qaa qho 3 rfl) ?_
    refine lv_iconst (v := 4) hx hb (qaa qho 4 rfl) (by decide) ?_
    refine lv_icmp_lt (tgt := 18) hx hb (qaa qho 5 rfl) (by decide) (fun c2 => ?_) (fun c2 => ?_)
    · have hw := hw.1 c2
      refine lv_aload_n hx hb (qaa qho 10 rfl) rfl (lv_at hl 0 rfl) ?_
      refine va_get (D := (dC, dI)) (ci := 2) (v := .ref jjQ) (C := RX2) (T := TX2) (N := 12) hx hb hts quH hown hK hP 0 rfl rfl 2 (by decide) (hts _ qalC) (fun _ h9 => h9) rfl (qaa qho 11 rfl) ?_
      refine lv_aload_n hx hb (qaa qho 12 rfl) rfl (lv_at hl 0 rfl) ?_
      refine va_get (D := (dC, dI)) (ci := 2) (v := .int jbw) (C := RX2) (T := TX2) (N := 12) hx hb hts quH hown hK hP 0 rfl rfl 10 (by decide) (hts _ qyB) (fun _ h9 => h9) rfl (qaa qho 13 rfl) ?_
      refine lv_aload_n hx hb (qaa qho 14 rfl) rfl (lv_at hl 1 rfl) ?_
      refine lv_iconst (v := 0) hx hb (qaa qho 15 rfl) (by decide) ?_
      refine lv_bipush (v := 30) hx hb (qaa qf4 0 rfl) (by decide) ?_
      obtain ⟨hCc, hPc, hDc, hFc⟩ := qac (ws' := (qtV a1 jbF jb5 jhS jeF jcI jcU jbM jbF cyB jcq)) hP hD hS hA [1, 2] (by decide +kernel) rfl
      refine va_calli (va_runV (As := [.int 0, .int 30]) (rest := [.int jbw, .ref jjQ]) ⟨hx, hb, hml, hown, hts⟩ (qh9 l dC dI cyB cyI cyJ cyP a1 jbF H.size (jcI) jb5 jcq jhS jcU jbM jeF 0 30 hw) (cwV 2 hts gX2_readFox_X8_number rfl rfl rfl (by decide +kernel) ⟨nbq rfl, nbq rfl⟩) ⟨qab, va_recv (q := (RX8, TX8, 7)) hK hPc (ci := 8) (q0 := 0) rfl rfl, qae hPc hK hDc hNw⟩ rfl rfl hl.1 rfl (lv_room (nbq rfl)) (qaa qf4 1 rfl) ⟨nbq rfl, nbq rfl⟩) hS (fun q _ h => hFc q h) hFc (fun r7 u t H1 locs ht hvm hw hB hz1 hk1 hS => ?_)
      obtain ⟨x3, x4, x5, x6⟩ := u
      obtain ⟨hP1, hK1, hD1⟩ := hB
      rw [ht] at hP1
      obtain ⟨hP, hD⟩ := qad (wr := (qaZP a0 jmz jmA jjQ jjU jkJ jiU jj1 jjT ja0 ja4 jbw jkk jjQ cyI jlB jjU cyI jlx)) (w1 := (qtV a1 jbF jb5 x3 x6 jcI x4 x5 jbF cyB jcq)) (wn := (qy1 a0 jmz jmA jjQ jjU jkJ jiU jj1 jjT ja0 ja4 jbw jkk a1 jbF jb5 x3 x6 jcI x4 x5 jbF cyB jcq jjQ cyI jlB jjU cyI jlx)) hP hD [1, 2] [0, 3, 4] [0, 3, 4, 1, 2] hCc rfl (by decide +kernel) (by decide +kernel) (by decide +kernel) rfl hk1 hFc hP1 hD1
      generalize H1 = H at hP hS ⊢
      obtain ⟨hi9, hw⟩ := hw
      refine va_iast hx hb hK hP hD hS 3 1 rfl rfl hi9 (qaa qf4 2 rfl) (fun H locs hP hD hS => ?_)
      obtain ⟨f8, ef8⟩ : ∃ y : NI, y = upd jlB jbw.toNatClampNeg r7 := ⟨_, rfl⟩
      have hw := hw f8 ef8
      have hP : va_P (dC, dI) vwCl (qy1 a0 jmz jmA jjQ jjU jkJ jiU jj1 jjT ja0 ja4 jbw jkk a1 jbF jb5 x3 x6 jcI x4 x5 jbF cyB jcq jjQ cyI f8 jjU cyI jlx) H := by rw [ef8]; exact hP
      have hD : va_D A (qy1 a0 jmz jmA jjQ jjU jkJ jiU jj1 jjT ja0 ja4 jbw jkk a1 jbF jb5 x3 x6 jcI x4 x5 jbF cyB jcq jjQ cyI f8 jjU cyI jlx) := by rw [ef8]; exact hD
      refine lv_aload_n hx hb (qaa qf4 3 rfl) rfl (lv_at hl 0 rfl) ?_
      refine va_get (D := (dC, dI)) (ci := 2) (v := .ref jjU) (C := RX2) (T := TX2) (N := 12) hx hb hts quH hown hK hP 0 rfl rfl 3 (by decide) (hts _ qanu) (fun _ h9 => h9) rfl (qaa qf4 4 rfl) ?_
      refine lv_aload_n hx hb (qaa qf4 5 rfl) rfl (lv_at hl 0 rfl) ?_
      refine va_get (D := (dC, dI)) (ci := 2) (v := .int jbw) (C := RX2) (T := TX2) (N := 12) hx hb hts quH hown hK hP 0 rfl rfl 10 (by decide) (hts _ qyB) (fun _ h9 => h9) rfl (qaa qf4 6 rfl) ?_
      refine lv_aload_n hx hb (qaa qf4 7 rfl) rfl (lv_at hl 1 rfl) ?_
      refine lv_iconst (v := 0) hx hb (qaa qf4 8 rfl) (by decide) ?_
      refine lv_bipush (v := 30) hx hb (qaa qf4 9 rfl) (by decide) ?_
      obtain ⟨hCc, hPc, hDc, hFc⟩ := qac (ws' := (qtV a1 jbF jb5 x3 x6 jcI x4 x5 jbF cyB jcq)) hP hD hS hA [1, 2] (by decide +kernel) rfl
      refine va_calli (va_runV (As := [.int 0, .int 30]) (rest := [.int jbw, .ref jjU]) ⟨hx, hb, hml, hown, hts⟩ (qh9 l dC dI cyB cyI cyJ cyP a1 jbF H.size (jcI) jb5 jcq x3 x4 x5 x6 0 30 hw) (cwV 2 hts gX2_readFox_X8_number rfl rfl rfl (by decide +kernel) ⟨nbq rfl, nbq rfl⟩) ⟨qab, va_recv (q := (RX8, TX8, 7)) hK hPc (ci := 8) (q0 := 0) rfl rfl, qae hPc hK hDc hNw⟩ rfl rfl hl.1 rfl (lv_room (nbq rfl)) (qaa qf4 10 rfl) ⟨nbq rfl, nbq rfl⟩) hS (fun q _ h => hFc q h) hFc (fun r13 u t H1 locs ht hvm hw hB hz1 hk1 hS => ?_)
      obtain ⟨x9, x10, x11, x12⟩ := u
      obtain ⟨hP1, hK1, hD1⟩ := hB
      rw [ht] at hP1
      obtain ⟨hP, hD⟩ := qad (wr := (qaZP a0 jmz jmA jjQ jjU jkJ jiU jj1 jjT ja0 ja4 jbw jkk jjQ cyI f8 jjU cyI jlx)) (w1 := (qtV a1 jbF jb5 x9 x12 jcI x10 x11 jbF cyB jcq)) (wn := (qy1 a0 jmz jmA jjQ jjU jkJ jiU jj1 jjT ja0 ja4 jbw jkk a1 jbF jb5 x9 x12 jcI x10 x11 jbF cyB jcq jjQ cyI f8 jjU cyI jlx)) hP hD [1, 2] [0, 3, 4] [0, 3, 4, 1, 2] hCc rfl (by decide +kernel) (by decide +kernel) (by decide +kernel) rfl hk1 hFc hP1 hD1
      generalize H1 = H at hP hS ⊢
      obtain ⟨hi9, hw⟩ := hw
      refine va_iast hx hb hK hP hD hS 4 1 rfl rfl hi9 (qaa qf4 11 rfl) (fun H locs hP hD hS => ?_)
      obtain ⟨f14, ef14⟩ : ∃ y : NI, y = upd jlx jbw.toNatClampNeg r13 := ⟨_, rfl⟩
      have hw := hw f14 ef14
      have hP : va_P (dC, dI) vwCl (qy1 a0 jmz jmA jjQ jjU jkJ jiU jj1 jjT ja0 ja4 jbw jkk a1 jbF jb5 x9 x12 jcI x10 x11 jbF cyB jcq jjQ cyI f8 jjU cyI f14) H := by rw [ef14]; exact hP
      have hD : va_D A (qy1 a0 jmz jmA jjQ jjU jkJ jiU jj1 jjT ja0 ja4 jbw jkk a1 jbF jb5 x9 x12 jcI x10 x11 jbF cyB jcq jjQ cyI f8 jjU cyI f14) := by rw [ef14]; exact hD
      refine lv_aload_n hx hb (qaa qf4 12 rfl) rfl (lv_at hl 1 rfl) ?_
      refine lv_bipush (v := 59) hx hb (qaa qf4 13 rfl) (by decide) ?_
      obtain ⟨hCc, hPc, hDc, hFc⟩ := qac (ws' := (qtV a1 jbF jb5 x9 x12 jcI x10 x11 jbF cyB jcq)) hP hD hS hA [1, 2] (by decide +kernel) rfl
      refine va_callv (va_runV (As := [.int 59]) (rest := []) ⟨hx, hb, hml, hown, hts⟩ (qtg l dC dI cyB cyI cyJ cyP a1 jbF H.size (jcI) jb5 jcq x9 x12 x10 x11 59 hw) (cwV 1 hts gX2_readFox_X8_needs rfl rfl rfl (by decide +kernel) ⟨nbq rfl, nbq rfl⟩) ⟨qab, va_recv (q := (RX8, TX8, 7)) hK hPc (ci := 8) (q0 := 0) rfl rfl, qae hPc hK hDc hNw⟩ rfl rfl hl.1 rfl (lv_room (nbq rfl)) (qaa qf4 14 rfl) ⟨nbq rfl, nbq rfl⟩) hS (fun q _ h => hFc q h) hFc (fun u t H1 locs ht hvm hw hB hz1 hk1 hS => ?_)
      obtain ⟨x15, x16, x17, x18⟩ := u
      obtain ⟨hP1, hK1, hD1⟩ := hB
      rw [ht] at hP1
      obtain ⟨hP, hD⟩ := qad (wr := (qaZP a0 jmz jmA jjQ jjU jkJ jiU jj1 jjT ja0 ja4 jbw jkk jjQ cyI f8 jjU cyI f14)) (w1 := (qtV a1 jbF jb5 x15 x16 jcI x17 x18 jbF cyB jcq)) (wn := (qy1 a0 jmz jmA jjQ jjU jkJ jiU jj1 jjT ja0 ja4 jbw jkk a1 jbF jb5 x15 x16 jcI x17 x18 jbF cyB jcq jjQ cyI f8 jjU cyI f14)) hP hD [1, 2] [0, 3, 4] [0, 3, 4, 1, 2] hCc rfl (by decide +kernel) (by decide +kernel) (by decide +kernel) rfl hk1 hFc hP1 hD1
      generalize H1 = H at hP hS ⊢
      refine lv_aload_n hx hb (qaa qf4 15 rfl) rfl (lv_at hl 0 rfl) ?_
      refine lv_dup hx hb (qaa qwu 0 rfl) rfl ?_
      refine va_get (D := (dC, dI)) (ci := 2) (v := .int jbw) (C := RX2) (T := TX2) (N := 12) hx hb hts quH hown hK hP 0 rfl rfl 10 (by decide) (hts _ qyB) (fun _ h9 => h9) rfl (qaa qwu 1 rfl) ?_
      refine lv_iconst (v := 1) hx hb (qaa qwu 2 rfl) (by decide) ?_
      refine lv_iadd hx hb (qaa qwu 3 rfl) ?_
      refine lv_topi (fun x19 ex19 => ?_)
      have hw := hw x19 ex19
      refine va_put (D := (dC, dI)) (ci := 2) (v := .int x19) (ty := .int) (C := RX2) (T := TX2) (N := 12) hx hb hts quH tyX2 tyX2_ok nmX2 hown hK hP hD hS 0 rfl rfl 10 (by decide) (hts _ qyB) (fun _ h9 => h9) rfl (by decide +kernel) rfl rfl (nbq rfl) (qaa qwu 4 rfl) (fun H locs hP hD hS => ?_)
      have hP : va_P (dC, dI) vwCl (qy1 a0 jmz jmA jjQ jjU jkJ jiU jj1 jjT ja0 ja4 x19 jkk a1 jbF jb5 x15 x16 jcI x17 x18 jbF cyB jcq jjQ cyI f8 jjU cyI f14) H := hP
      have hD : va_D A (qy1 a0 jmz jmA jjQ jjU jkJ jiU jj1 jjT ja0 ja4 x19 jkk a1 jbF jb5 x15 x16 jcI x17 x18 jbF cyB jcq jjQ cyI f8 jjU cyI f14) := hD
      exact ((W.vret hx hb hr (fun t ht hW => ⟨⟨(x15, x17, x18, x16, f8, f14, x19), rfl, hw, by rw [ht]; exact hP, va_K.moved hW.alike hK, hD⟩, hS.F ht⟩) hS.2.2 (qaa qwu 5 rfl)))
    · have hw := hw.2 c2
      exact qZv dC dI cyB cyI cyJ cyP a0 a1 jjQ jbF jjU jmz jmA jkJ jiU jj1 jjT ja0 ja4 jkk jcI jb5 jcq Q C0 _ _ _ jhS jcU jbM jeF jlB jlx jbw hP hD hS (lv_sub hl [1] rfl) hw
theorem qJ8 : ∀ w ∈ u_ws RX2 TX2 12, w ∈ wsX2_readDebt := uiM qr9 qLp (by decide +kernel)
theorem qagw : (.fieldLink RX2 30 "MarchHares$Down" "debts" "[I" : Cond) ∈ wsX2_readDebt := qr9 194 (by decide +kernel)
theorem qSv : (.fieldLink RX2 40 "MarchHares$Down" "hares" "I" : Cond) ∈ wsX2_readDebt := qr9 721 (by decide +kernel)
set_option maxHeartbeats 4000000 in
set_option maxRecDepth 100000 in
theorem qVr {p : Program} {l : Launch} {e : Env} {s : State} {m : MethodId} {args : Array Value} {below : List Frame} {meth : Method} {c : Code} {A : Nat → Prop} (dC : Nat → ClassId) (dI : Nat → Nat → Nat) (cyB cyI cyJ cyP : ClassId) (a0 a1 jbF jkT : Nat) (jmz jmA jlc jld jkJ jiU jjT ja0 jaP jkk jcI : Value) (jaC jb5 : Int32) (jcq : NI) (Q : Int32 → Int32 → Int32 → Int32 → NI → Prop) (C0 : cfx p s m args meth c cX2_readDebt none wsX2_readDebt RX2 6 A (dC, dI) (kT cyB cyI cyJ cyP)) : ∀ (H : Heap) (locs : List Loc) (ls : Array Slot) (jhS jcU jbM jeF : Int32) (jl3 : NI) (l3 l4 : Int32), va_P (dC, dI) vwCl (qzV a0 jmz jmA jlc jld jkJ jiU jkT jjT ja0 jaC jaP jkk a1 jbF jb5 jhS jeF jcI jcU jbM jbF cyB jcq jkT cyI jl3) H → va_D A (qzV a0 jmz jmA jlc jld jkJ jiU jkT jjT ja0 jaC jaP jkk a1 jbF jb5 jhS jeF jcI jcU jbM jbF cyB jcq jkT cyI jl3) → va_S A s.heap H locs → lv_has ls 6 [(0, .ref a0), (1, .ref a1), (3, .int l3), (4, .int l4)] → qCG jaC jb5 jcq Q jhS jcU jbM jeF jl3 l3 l4 → W p l e (headSpec wsX2_readDebt ({ frames := 3, cells := 0, slots := 0, locals := 63 })).room s m args below meth c H locs 0 0 (MQ below (va_Qv (fun (u : Int32 × Int32 × Int32 × Int32 × NI) => Q u.1 u.2.1 u.2.2.1 u.2.2.2.1 u.2.2.2.2) (cB (dC, dI) (kT cyB cyI cyJ cyP) A (fun u : Int32 × Int32 × Int32 × Int32 × NI => ((qzV a0 jmz jmA jlc jld jkJ jiU jkT jjT ja0 jaC jaP jkk a1 jbF jb5 u.1 u.2.2.2.1 jcI u.2.1 u.2.2.1 jbF cyB jcq jkT cyI u.2.2.2.2) : va_W))) A) args s 0 0 A) (F0 m 46 ls []) := by
  obtain ⟨hx, hb, hr, hts, hown, hlocks, hml, hA, hK, hNw⟩ := id C0
  intro H locs ls jhS jcU jbM jeF jl3 l3 l4 hP hD hS hl hw
  refine lv_aload_n hx hb (qaa qdZ 12 rfl) rfl (lv_at hl 1 rfl) ?_
  refine lv_iconst (v := 0) hx hb (qaa qdZ 13 rfl) (by decide) ?_
  refine lv_bipush (v := 99) hx hb (qaa qdZ 14 rfl) (by decide) ?_
  obtain ⟨hCc, hPc, hDc, hFc⟩ := qac (ws' := (qtV a1 jbF jb5 jhS jeF jcI jcU jbM jbF cyB jcq)) hP hD hS hA [1, 2] (by decide +kernel) rfl
  refine va_calli (va_runV (As := [.int 0, .int 99]) (rest := []) ⟨hx, hb, hml, hown, hts⟩ (qh9 l dC dI cyB cyI cyJ cyP a1 jbF H.size (jcI) jb5 jcq jhS jcU jbM jeF 0 99 hw) (cwV 2 hts gX2_readDebt_X8_number rfl rfl rfl (by decide +kernel) ⟨nbq rfl, nbq rfl⟩) ⟨qab, va_recv (q := (RX8, TX8, 7)) hK hPc (ci := 8) (q0 := 0) rfl rfl, qae hPc hK hDc hNw⟩ rfl rfl hl.1 rfl (lv_room (nbq rfl)) (qaa qdZ 15 rfl) ⟨nbq rfl, nbq rfl⟩) hS (fun q _ h => hFc q h) hFc (fun r21 u t H1 locs ht hvm hw hB hz1 hk1 hS => ?_)
  obtain ⟨x17, x18, x19, x20⟩ := u
  obtain ⟨hP1, hK1, hD1⟩ := hB
  rw [ht] at hP1
  obtain ⟨hP, hD⟩ := qad (wr := (qaOS a0 jmz jmA jlc jld jkJ jiU jkT jjT ja0 jaC jaP jkk jkT cyI jl3)) (w1 := (qtV a1 jbF jb5 x17 x20 jcI x18 x19 jbF cyB jcq)) (wn := (qzV a0 jmz jmA jlc jld jkJ jiU jkT jjT ja0 jaC jaP jkk a1 jbF jb5 x17 x20 jcI x18 x19 jbF cyB jcq jkT cyI jl3)) hP hD [1, 2] [0, 3] [0, 2, 3, 1] hCc rfl (by decide +kernel) (by decide +kernel) (by decide +kernel) rfl hk1 hFc hP1 hD1
  generalize H1 = H at hP hS ⊢
  refine lv_istore (lv' := [(5, .int r21), (0, .ref a0), (1, .ref a1), (3, .int l3), (4, .int l4)]) hx hb (qaa qeE 0 rfl) hl (by decide) rfl (fun ls hl => ?_)
  refine lv_aload_n hx hb (qaa qeE 1 rfl) rfl (lv_at hl 2 rfl) ?_
  refine lv_bipush (v := 59) hx hb (qaa qeE 2 rfl) (by decide) ?_
  obtain ⟨hCc, hPc, hDc, hFc⟩ := qac (ws' := (qtV a1 jbF jb5 x17 x20 jcI x18 x19 jbF cyB jcq)) hP hD hS hA [1, 2] (by decide +kernel) rfl
  refine va_callv (va_runV (As := [.int 59]) (rest := []) ⟨hx, hb, hml, hown, hts⟩ (qtg l dC dI cyB cyI cyJ cyP a1 jbF H.size (jcI) jb5 jcq x17 x20 x18 x19 59 hw) (cwV 1 hts gX2_readDebt_X8_needs rfl rfl rfl (by decide +kernel) ⟨nbq rfl, nbq rfl⟩) ⟨qab, va_recv (q := (RX8, TX8, 7)) hK hPc (ci := 8) (q0 := 0) rfl rfl, qae hPc hK hDc hNw⟩ rfl rfl hl.1 rfl (lv_room (nbq rfl)) (qaa qeE 3 rfl) ⟨nbq rfl, nbq rfl⟩) hS (fun q _ h => hFc q h) hFc (fun u t H1 locs ht hvm hw hB hz1 hk1 hS => ?_)
  obtain ⟨x22, x23, x24, x25⟩ := u
  obtain ⟨hP1, hK1, hD1⟩ := hB
  rw [ht] at hP1
  obtain ⟨hP, hD⟩ := qad (wr := (qaOS a0 jmz jmA jlc jld jkJ jiU jkT jjT ja0 jaC jaP jkk jkT cyI jl3)) (w1 := (qtV a1 jbF jb5 x22 x23 jcI x24 x25 jbF cyB jcq)) (wn := (qzV a0 jmz jmA jlc jld jkJ jiU jkT jjT ja0 jaC jaP jkk a1 jbF jb5 x22 x23 jcI x24 x25 jbF cyB jcq jkT cyI jl3)) hP hD [1, 2] [0, 3] [0, 2, 3, 1] hCc rfl (by decide +kernel) (by decide +kernel) (by decide +kernel) rfl hk1 hFc hP1 hD1
  generalize H1 = H at hP hS ⊢
  refine lv_aload_n hx hb (qaa qeE 4 rfl) rfl (lv_at hl 2 rfl) ?_
  obtain ⟨hCc, hPc, hDc, hFc⟩ := qac (ws' := (qM1 a1 jbF jb5 x22 x23 jcI x24 x25)) hP hD hS hA [1] (by decide +kernel) rfl
  refine va_calli (va_runV (As := []) (rest := []) ⟨hx, hb, hml, hown, hts⟩ (qkj l dC dI cyB cyI cyJ cyP a1 H.size (.ref jbF) (.int jb5) (.int x22) (.int x23) (jcI) (.int x25) x24 hw) (cwV 0 hts gX2_readDebt_X8_isFaulty rfl rfl rfl (by decide +kernel) ⟨nbq rfl, nbq rfl⟩) ⟨qab, va_recv (q := (RX8, TX8, 7)) hK hPc (ci := 8) (q0 := 0) rfl rfl, qae hPc hK hDc hNw⟩ rfl rfl hl.1 rfl (lv_room (nbq rfl)) (qaa qeE 5 rfl) ⟨nbq rfl, nbq rfl⟩) hS (fun q _ h => hFc q h) hFc (fun r26 u t H1 locs ht hvm hw hB hz1 hk1 hS => ?_)
  obtain ⟨hP1, hK1, hD1⟩ := hB
  rw [ht] at hP1
  obtain ⟨hP, hD⟩ := qad (wr := (qaWx a0 jmz jmA jlc jld jkJ jiU jkT jjT ja0 jaC jaP jkk jbF cyB jcq jkT cyI jl3)) (w1 := (qM1 a1 jbF jb5 x22 x23 jcI x24 x25)) (wn := (qzV a0 jmz jmA jlc jld jkJ jiU jkT jjT ja0 jaC jaP jkk a1 jbF jb5 x22 x23 jcI x24 x25 jbF cyB jcq jkT cyI jl3)) hP hD [1] [0, 2, 3] [0, 3, 1, 2] hCc rfl (by decide +kernel) (by decide +kernel) (by decide +kernel) rfl hk1 hFc hP1 hD1
  generalize H1 = H at hP hS ⊢
  refine lv_if_ne (tgt := 82) hx hb (qaa qeE 6 rfl) (by decide) (fun c27 => ?_) (fun c27 => ?_)
  · have hw := hw.1 c27
    exact ((W.vret hx hb hr (fun t ht hW => ⟨⟨(x22, x24, x25, x23, jl3), rfl, hw, by rw [ht]; exact hP, va_K.moved hW.alike hK, hD⟩, hS.F ht⟩) hS.2.2 (qaa qV6 0 rfl)))
  · have hw := hw.2 c27
    refine lv_aload_n hx hb (qaa qeE 7 rfl) rfl (lv_at hl 1 rfl) ?_
    refine va_get (D := (dC, dI)) (ci := 2) (v := .ref jkT) (C := RX2) (T := TX2) (N := 12) hx hb hts qJ8 hown hK hP 0 rfl rfl 6 (by decide) (hts _ qagw) (fun _ h9 => h9) rfl (qaa qeE 8 rfl) ?_
    refine lv_iload_n hx hb (qaa qeE 9 rfl) rfl (lv_at hl 3 rfl) ?_
    refine lv_bipush (v := 6) hx hb (qaa qeE 10 rfl) (by decide) ?_
    refine lv_imul hx hb (qaa qeE 11 rfl) ?_
    refine lv_topi (fun x28 ex28 => ?_)
    have hw := hw x28 ex28
    refine lv_iload hx hb (qaa qeE 12 rfl) (lv_at hl 4 rfl) ?_
    refine lv_iadd hx hb (qaa qeE 13 rfl) ?_
    refine lv_topi (fun x29 ex29 => ?_)
    have hw := hw x29 ex29
    refine lv_iload hx hb (qaa qeE 14 rfl) (lv_at hl 0 rfl) ?_
    obtain ⟨hi9, hw⟩ := hw
    refine va_iast hx hb hK hP hD hS 3 1 rfl rfl hi9 (qaa qeE 15 rfl) (fun H locs hP hD hS => ?_)
    obtain ⟨f30, ef30⟩ : ∃ y : NI, y = upd jl3 x29.toNatClampNeg r21 := ⟨_, rfl⟩
    have hw := hw f30 ef30
    have hP : va_P (dC, dI) vwCl (qzV a0 jmz jmA jlc jld jkJ jiU jkT jjT ja0 jaC jaP jkk a1 jbF jb5 x22 x23 jcI x24 x25 jbF cyB jcq jkT cyI f30) H := by rw [ef30]; exact hP
    have hD : va_D A (qzV a0 jmz jmA jlc jld jkJ jiU jkT jjT ja0 jaC jaP jkk a1 jbF jb5 x22 x23 jcI x24 x25 jbF cyB jcq jkT cyI f30) := by rw [ef30]; exact hD
    exact ((W.vret hx hb hr (fun t ht hW => ⟨⟨(x22, x24, x25, x23, f30), rfl, hw, by rw [ht]; exact hP, va_K.moved hW.alike hK, hD⟩, hS.F ht⟩) hS.2.2 (qaa qV6 0 rfl)))
set_option maxHeartbeats 4000000 in
set_option maxRecDepth 100000 in
theorem qaFI (l : Launch) (dC : Nat → ClassId) (dI : Nat → Nat → Nat) (cyB cyI cyJ cyP : ClassId) (a0 a1 jbF jkT sz : Nat) (jmz jmA jlc jld jkJ jiU jjT ja0 jaP jkk jcI : Value) (jaC jb5 : Int32) (jcq : NI) (jhS jcU jbM jeF : Int32) (jl3 : NI) (p2 : Int32) {Q : Int32 → Int32 → Int32 → Int32 → NI → Prop} (hw : qTh jaC jb5 jcq jhS jcU jbM jeF jl3 p2 Q) : Met l yX2_readDebt wsX2_readDebt ({ frames := 3, cells := 0, slots := 0, locals := 63 }) (va_Pc [.ref a0, .ref a1, .int p2] (cPc (dC, dI) (kT cyB cyI cyJ cyP) (qzV a0 jmz jmA jlc jld jkJ jiU jkT jjT ja0 jaC jaP jkk a1 jbF jb5 jhS jeF jcI jcU jbM jbF cyB jcq jkT cyI jl3) sz)) (va_Qv (fun (u : Int32 × Int32 × Int32 × Int32 × NI) => Q u.1 u.2.1 u.2.2.1 u.2.2.2.1 u.2.2.2.2) (cB (dC, dI) (kT cyB cyI cyJ cyP) (va_A (qzV a0 jmz jmA jlc jld jkJ jiU jkT jjT ja0 jaC jaP jkk a1 jbF jb5 jhS jeF jcI jcU jbM jbF cyB jcq jkT cyI jl3) sz) (fun u : Int32 × Int32 × Int32 × Int32 × NI => ((qzV a0 jmz jmA jlc jld jkJ jiU jkT jjT ja0 jaC jaP jkk a1 jbF jb5 u.1 u.2.2.2.1 jcI u.2.1 u.2.2.1 jbF cyB jcq jkT cyI u.2.2.2.2) : va_W))) (va_A (qzV a0 jmz jmA jlc jld jkJ jiU jkT jjT ja0 jaC jaP jkk a1 jbF jb5 jhS jeF jcI jcU jbM jbF cyB jcq jkT cyI jl3) sz)) 0 0 (va_A (qzV a0 jmz jmA jlc jld jkJ jiU jkT jjT ja0 jaC jaP jkk a1 jbF jb5 jhS jeF jcI jcU jbM jbF cyB jcq jkT cyI jl3) sz) := by
  refine Met.ofW (cc := cX2_readDebt) (maxL := 6) (ret := none) (by decide) rfl ?_
  intro p e s m args below meth c s₁ B hml hv
  obtain ⟨rfl, hsz, hP, hK, hD0, hNw⟩ := hv
  have hx := B.exec
  have hb := B.bytes
  have hr := B.returns
  have hts := atoms_spec (ws := wsX2_readDebt) B.pre
  have hown : s.vm.findClass RX2 = some m.cls := findClass_of_methodNamed B.named
  have hlocks := B.notSynchronized
  subst hsz
  have hD := hD0.self (sz := s.heap.size)
  generalize hAe : va_A (qzV a0 jmz jmA jlc jld jkJ jiU jkT jjT ja0 jaC jaP jkk a1 jbF jb5 jhS jeF jcI jcU jbM jbF cyB jcq jkT cyI jl3) s.heap.size = A at hD ⊢
  have hA : ∀ q : Nat, s.heap.size ≤ q → A q := fun q h => by rw [← hAe]; exact Or.inr h
  have hS : va_S A s.heap s.heap [] := va_S.rf
  have hP : va_P (dC, dI) vwCl (qzV a0 jmz jmA jlc jld jkJ jiU jkT jjT ja0 jaC jaP jkk a1 jbF jb5 jhS jeF jcI jcU jbM jbF cyB jcq jkT cyI jl3) s.heap := hP
  have hl := lv_entry ([.ref a0, .ref a1, .int p2]) (n := 6) (nbq rfl)
  rw [lg_entry_eq]
  generalize (lg_sl ([.ref a0, .ref a1, .int p2]) ++ List.replicate (6 - (lg_sl ([.ref a0, .ref a1, .int p2])).length) Slot.unset).toArray = ls at hl ⊢
  have hl : lv_has ls 6 [(0, .ref a0), (1, .ref a1), (2, .int p2)] := hl
  have C0 : cfx p s m _ meth c cX2_readDebt none wsX2_readDebt RX2 6 A (dC, dI) (kT cyB cyI cyJ cyP) := ⟨hx, hb, hr, hts, hown, hlocks, hml, hA, hK, hNw⟩
  clear hAe
  obtain ⟨H, hH⟩ : ∃ H, H = s.heap := ⟨_, rfl⟩
  rw [← hH] at hP ⊢
  have hS : va_S A s.heap H [] := by rw [hH]; exact va_S.rf
  have hS := hS
  refine lv_iload_n hx hb (qaa qf3 0 rfl) rfl (lv_at hl 2 rfl) ?_
  refine lv_if_eq (tgt := 10) hx hb (qaa qf3 1 rfl) (by decide) (fun c1 => ?_) (fun c1 => ?_)
  · have hw := hw.1 c1
    refine lv_aload_n hx hb (qaa qf3 6 rfl) rfl (lv_at hl 1 rfl) ?_
    refine lv_iconst (v := 0) hx hb (qaa qf3 7 rfl) (by decide) ?_
    refine lv_aload_n hx hb (qaa qf3 8 rfl) rfl (lv_at hl 0 rfl) ?_
    refine va_get (D := (dC, dI)) (ci := 2) (v := .int jaC) (C := RX2) (T := TX2) (N := 12) hx hb hts qJ8 hown hK hP 0 rfl rfl 9 (by decide) (hts _ qSv) (fun _ h9 => h9) rfl (qaa qf3 9 rfl) ?_
    refine lv_iconst (v := 1) hx hb (qaa qf3 10 rfl) (by decide) ?_
    refine lv_isub hx hb (qaa qf3 11 rfl) ?_
    obtain ⟨hCc, hPc, hDc, hFc⟩ := qac (ws' := (qtV a1 jbF jb5 jhS jeF jcI jcU jbM jbF cyB jcq)) hP hD hS hA [1, 2] (by decide +kernel) rfl
    refine va_calli (va_runV (As := [.int 0, .int (jaC - 1)]) (rest := []) ⟨hx, hb, hml, hown, hts⟩ (qh9 l dC dI cyB cyI cyJ cyP a1 jbF H.size (jcI) jb5 jcq jhS jcU jbM jeF 0 (jaC - 1) hw) (cwV 2 hts gX2_readDebt_X8_number rfl rfl rfl (by decide +kernel) ⟨nbq rfl, nbq rfl⟩) ⟨qab, va_recv (q := (RX8, TX8, 7)) hK hPc (ci := 8) (q0 := 0) rfl rfl, qae hPc hK hDc hNw⟩ rfl rfl hl.1 rfl (lv_room (nbq rfl)) (qaa qf3 12 rfl) ⟨nbq rfl, nbq rfl⟩) hS (fun q _ h => hFc q h) hFc (fun r6 u t H1 locs ht hvm hw hB hz1 hk1 hS => ?_)
    obtain ⟨x2, x3, x4, x5⟩ := u
    obtain ⟨hP1, hK1, hD1⟩ := hB
    rw [ht] at hP1
    obtain ⟨hP, hD⟩ := qad (wr := (qaOS a0 jmz jmA jlc jld jkJ jiU jkT jjT ja0 jaC jaP jkk jkT cyI jl3)) (w1 := (qtV a1 jbF jb5 x2 x5 jcI x3 x4 jbF cyB jcq)) (wn := (qzV a0 jmz jmA jlc jld jkJ jiU jkT jjT ja0 jaC jaP jkk a1 jbF jb5 x2 x5 jcI x3 x4 jbF cyB jcq jkT cyI jl3)) hP hD [1, 2] [0, 3] [0, 2, 3, 1] hCc rfl (by decide +kernel) (by decide +kernel) (by decide +kernel) rfl hk1 hFc hP1 hD1
    generalize H1 = H at hP hS ⊢
    refine lv_istore_n (lv' := [(3, .int r6), (0, .ref a0), (1, .ref a1), (2, .int p2)]) hx hb (qaa qf3 13 rfl) rfl hl (by decide) rfl (fun ls hl => ?_)
    refine lv_aload_n hx hb (qaa qf3 14 rfl) rfl (lv_at hl 2 rfl) ?_
    refine lv_iconst (v := 0) hx hb (qaa qf3 15 rfl) (by decide) ?_
    refine lv_aload_n hx hb (qaa qdZ 0 rfl) rfl (lv_at hl 1 rfl) ?_
    refine va_get (D := (dC, dI)) (ci := 2) (v := .int jaC) (C := RX2) (T := TX2) (N := 12) hx hb hts qJ8 hown hK hP 0 rfl rfl 9 (by decide) (hts _ qSv) (fun _ h9 => h9) rfl (qaa qdZ 1 rfl) ?_
    refine lv_iconst (v := 1) hx hb (qaa qdZ 2 rfl) (by decide) ?_
    refine lv_isub hx hb (qaa qdZ 3 rfl) ?_
    obtain ⟨hCc, hPc, hDc, hFc⟩ := qac (ws' := (qtV a1 jbF jb5 x2 x5 jcI x3 x4 jbF cyB jcq)) hP hD hS hA [1, 2] (by decide +kernel) rfl
    refine va_calli (va_runV (As := [.int 0, .int (jaC - 1)]) (rest := []) ⟨hx, hb, hml, hown, hts⟩ (qh9 l dC dI cyB cyI cyJ cyP a1 jbF H.size (jcI) jb5 jcq x2 x3 x4 x5 0 (jaC - 1) hw) (cwV 2 hts gX2_readDebt_X8_number rfl rfl rfl (by decide +kernel) ⟨nbq rfl, nbq rfl⟩) ⟨qab, va_recv (q := (RX8, TX8, 7)) hK hPc (ci := 8) (q0 := 0) rfl rfl, qae hPc hK hDc hNw⟩ rfl rfl hl.1 rfl (lv_room (nbq rfl)) (qaa qdZ 4 rfl) ⟨nbq rfl, nbq rfl⟩) hS (fun q _ h => hFc q h) hFc (fun r11 u t H1 locs ht hvm hw hB hz1 hk1 hS => ?_)
    obtain ⟨x7, x8, x9, x10⟩ := u
    obtain ⟨hP1, hK1, hD1⟩ := hB
    rw [ht] at hP1
    obtain ⟨hP, hD⟩ := qad (wr := (qaOS a0 jmz jmA jlc jld jkJ jiU jkT jjT ja0 jaC jaP jkk jkT cyI jl3)) (w1 := (qtV a1 jbF jb5 x7 x10 jcI x8 x9 jbF cyB jcq)) (wn := (qzV a0 jmz jmA jlc jld jkJ jiU jkT jjT ja0 jaC jaP jkk a1 jbF jb5 x7 x10 jcI x8 x9 jbF cyB jcq jkT cyI jl3)) hP hD [1, 2] [0, 3] [0, 2, 3, 1] hCc rfl (by decide +kernel) (by decide +kernel) (by decide +kernel) rfl hk1 hFc hP1 hD1
    generalize H1 = H at hP hS ⊢
    refine lv_istore (lv' := [(4, .int r11), (3, .int r6), (0, .ref a0), (1, .ref a1), (2, .int p2)]) hx hb (qaa qdZ 5 rfl) hl (by decide) rfl (fun ls hl => ?_)
    refine lv_iload_n hx hb (qaa qdZ 6 rfl) rfl (lv_at hl 1 rfl) ?_
    refine lv_iload hx hb (qaa qdZ 7 rfl) (lv_at hl 0 rfl) ?_
    refine lv_icmp_ne (tgt := 46) hx hb (qaa qdZ 8 rfl) (by decide) (fun c12 => ?_) (fun c12 => ?_)
    · have hw := hw.1 c12
      exact qVr dC dI cyB cyI cyJ cyP a0 a1 jbF jkT jmz jmA jlc jld jkJ jiU jjT ja0 jaP jkk jcI jaC jb5 jcq Q C0 _ _ _ x7 x8 x9 x10 jl3 r6 r11 hP hD hS (lv_sub hl [2, 3, 1, 0] rfl) hw
    · have hw := hw.2 c12
      refine lv_aload_n hx hb (qaa qdZ 9 rfl) rfl (lv_at hl 3 rfl) ?_
      refine lv_iconst (v := 2) hx hb (qaa qdZ 10 rfl) (by decide) ?_
      obtain ⟨hCc, hPc, hDc, hFc⟩ := qac (ws' := (qM1 a1 jbF jb5 x7 x10 jcI x8 x9)) hP hD hS hA [1] (by decide +kernel) rfl
      refine va_callv (va_runV (As := [.int 2]) (rest := []) ⟨hx, hb, hml, hown, hts⟩ (qnW l dC dI cyB cyI cyJ cyP a1 H.size (.ref jbF) (.int jb5) (.int x7) (jcI) x10 x8 x9 2 hw) (cwV 1 hts gX2_readDebt_X8_blameToken rfl rfl rfl (by decide +kernel) ⟨nbq rfl, nbq rfl⟩) ⟨qab, va_recv (q := (RX8, TX8, 7)) hK hPc (ci := 8) (q0 := 0) rfl rfl, qae hPc hK hDc hNw⟩ rfl rfl hl.1 rfl (lv_room (nbq rfl)) (qaa qdZ 11 rfl) ⟨nbq rfl, nbq rfl⟩) hS (fun q _ h => hFc q h) hFc (fun u t H1 locs ht hvm hw hB hz1 hk1 hS => ?_)
      obtain ⟨x13, x14⟩ := u
      obtain ⟨hP1, hK1, hD1⟩ := hB
      rw [ht] at hP1
      obtain ⟨hP, hD⟩ := qad (wr := (qaWx a0 jmz jmA jlc jld jkJ jiU jkT jjT ja0 jaC jaP jkk jbF cyB jcq jkT cyI jl3)) (w1 := (qM1 a1 jbF jb5 x7 x10 jcI x13 x14)) (wn := (qzV a0 jmz jmA jlc jld jkJ jiU jkT jjT ja0 jaC jaP jkk a1 jbF jb5 x7 x10 jcI x13 x14 jbF cyB jcq jkT cyI jl3)) hP hD [1] [0, 2, 3] [0, 3, 1, 2] hCc rfl (by decide +kernel) (by decide +kernel) (by decide +kernel) rfl hk1 hFc hP1 hD1
      generalize H1 = H at hP hS ⊢
      exact qVr dC dI cyB cyI cyJ cyP a0 a1 jbF jkT jmz jmA jlc jld jkJ jiU jjT ja0 jaP jkk jcI jaC jb5 jcq Q C0 _ _ _ x7 x13 x14 x10 jl3 r6 r11 hP hD hS (lv_sub hl [2, 3, 1, 0] rfl) hw
  · have hw := hw.2 c1
    refine lv_aload_n hx hb (qaa qf3 2 rfl) rfl (lv_at hl 1 rfl) ?_
    refine lv_iconst (v := 3) hx hb (qaa qf3 3 rfl) (by decide) ?_
    obtain ⟨hCc, hPc, hDc, hFc⟩ := qac (ws' := (qM1 a1 jbF jb5 jhS jeF jcI jcU jbM)) hP hD hS hA [1] (by decide +kernel) rfl
    refine va_callv (va_runV (As := [.int 3]) (rest := []) ⟨hx, hb, hml, hown, hts⟩ (qnW l dC dI cyB cyI cyJ cyP a1 H.size (.ref jbF) (.int jb5) (.int jhS) (jcI) jeF jcU jbM 3 hw) (cwV 1 hts gX2_readDebt_X8_blameToken rfl rfl rfl (by decide +kernel) ⟨nbq rfl, nbq rfl⟩) ⟨qab, va_recv (q := (RX8, TX8, 7)) hK hPc (ci := 8) (q0 := 0) rfl rfl, qae hPc hK hDc hNw⟩ rfl rfl hl.1 rfl (lv_room (nbq rfl)) (qaa qf3 4 rfl) ⟨nbq rfl, nbq rfl⟩) hS (fun q _ h => hFc q h) hFc (fun u t H1 locs ht hvm hw hB hz1 hk1 hS => ?_)
    obtain ⟨x15, x16⟩ := u
    obtain ⟨hP1, hK1, hD1⟩ := hB
    rw [ht] at hP1
    obtain ⟨hP, hD⟩ := qad (wr := (qaWx a0 jmz jmA jlc jld jkJ jiU jkT jjT ja0 jaC jaP jkk jbF cyB jcq jkT cyI jl3)) (w1 := (qM1 a1 jbF jb5 jhS jeF jcI x15 x16)) (wn := (qzV a0 jmz jmA jlc jld jkJ jiU jkT jjT ja0 jaC jaP jkk a1 jbF jb5 jhS jeF jcI x15 x16 jbF cyB jcq jkT cyI jl3)) hP hD [1] [0, 2, 3] [0, 3, 1, 2] hCc rfl (by decide +kernel) (by decide +kernel) (by decide +kernel) rfl hk1 hFc hP1 hD1
    generalize H1 = H at hP hS ⊢
    exact ((W.vret hx hb hr (fun t ht hW => ⟨⟨(jhS, x15, x16, jeF, jl3), rfl, hw, by rw [ht]; exact hP, va_K.moved hW.alike hK, hD⟩, hS.F ht⟩) hS.2.2 (qaa qf3 5 rfl)))
theorem qwT : ∀ w ∈ u_ws RX2 TX2 12, w ∈ wsX2_foxIsNear := uiM qrL qLp (by decide +kernel)
theorem q8v : (.fieldLink RX2 15 "MarchHares$Down" "formY" "[I" : Cond) ∈ wsX2_foxIsNear := qrL 149 (by decide +kernel)
theorem q9f : (.fieldLink RX2 18 "MarchHares$Down" "foxX" "[I" : Cond) ∈ wsX2_foxIsNear := qrL 150 (by decide +kernel)
theorem q99 : (.fieldLink RX2 21 "MarchHares$Down" "foxY" "[I" : Cond) ∈ wsX2_foxIsNear := qrL 151 (by decide +kernel)
theorem qaag : (.fieldLink RX2 43 "MarchHares$Down" "foxes" "I" : Cond) ∈ wsX2_foxIsNear := qrL 722 (by decide +kernel)
theorem qac4 : (.fieldLink RX2 9 "MarchHares$Down" "formX" "[I" : Cond) ∈ wsX2_foxIsNear := qrL 148 (by decide +kernel)
theorem qNy : (.initialized "java/lang/Math" : Cond) ∈ wsX2_foxIsNear := qrL 651 (by decide +kernel)
theorem qNm : (.methodLink RX2 108 Lib.Math.abs.name : Cond) ∈ wsX2_foxIsNear := qrL 1092 (by decide +kernel)
theorem qLH : (.code Lib.Math.abs.name Lib.Math.abs.code 1 (some .int) : Cond) ∈ wsX2_foxIsNear := qrL 1094 (by decide +kernel)
theorem qLv : (.static Lib.Math.abs.name : Cond) ∈ wsX2_foxIsNear := qrL 1093 (by decide +kernel)
set_option maxHeartbeats 4000000 in
set_option maxRecDepth 100000 in
theorem qanY {p : Program} {l : Launch} {e : Env} {s : State} {m : MethodId} {args : Array Value} {below : List Frame} {meth : Method} {c : Code} {A : Nat → Prop} (dC : Nat → ClassId) (dI : Nat → Nat → Nat) (cyB cyI cyJ cyP : ClassId) (a0 jha jjQ jhj jjU : Nat) (jkJ jiU jj1 jjT ja0 ja4 jkk : Value) (jbw : Int32) (jiS jlB jiP jlx : NI) (Q : Int32 → Prop) (C0 : cfx p s m args meth c cX2_foxIsNear (some .boolean) wsX2_foxIsNear RX2 3 A (dC, dI) (kT cyB cyI cyJ cyP)) : ∀ (n : Nat) (H : Heap) (locs : List Loc) (ls : Array Slot) (l1 l2 : Int32), va_P (dC, dI) vwCl (qTO a0 jha jhj jjQ jjU jkJ jiU jj1 jjT ja0 ja4 jbw jkk jha cyI jiS jjQ cyI jlB jhj cyI jiP jjU cyI jlx) H → va_D A (qTO a0 jha jhj jjQ jjU jkJ jiU jj1 jjT ja0 ja4 jbw jkk jha cyI jiS jjQ cyI jlB jhj cyI jiP jjU cyI jlx) → va_S A s.heap H locs → lv_has ls 3 [(0, .ref a0), (1, .int l1), (2, .int l2)] → qx8 jbw jiS jlB jiP jlx Q n l1 l2 → W p l e (headSpec wsX2_foxIsNear ({ frames := 1, cells := 0, slots := 0, locals := 32 })).room s m args below meth c H locs 0 0 (MQ below (va_Qi (fun (r : Int32) (_ : Unit) => Q r ) (cB (dC, dI) (kT cyB cyI cyJ cyP) A (fun u : Unit => ((qTO a0 jha jhj jjQ jjU jkJ jiU jj1 jjT ja0 ja4 jbw jkk jha cyI jiS jjQ cyI jlB jhj cyI jiP jjU cyI jlx) : va_W))) A) args s 0 0 A) (F0 m 2 ls []) := by
  obtain ⟨hx, hb, hr, hts, hown, hlocks, hml, hA, hK, hNw⟩ := id C0
  intro n
  induction n with
  | zero => intro H locs ls l1 l2 hP hD hS hl hw; exact False.elim hw
  | succ n ih =>
    intro H locs ls l1 l2 hP hD hS hl hw
    refine lv_iload_n hx hb (qaa qeO 2 rfl) rfl (lv_at hl 2 rfl) ?_
    refine lv_aload_n hx hb (qaa qeO 3 rfl) rfl (lv_at hl 0 rfl) ?_
    refine va_get (D := (dC, dI)) (ci := 2) (v := .int jbw) (C := RX2) (T := TX2) (N := 12) hx hb hts qwT hown hK hP 0 rfl rfl 10 (by decide) (hts _ qaag) (fun _ h9 => h9) rfl (qaa qeO 4 rfl) ?_
    refine lv_icmp_ge (tgt := 55) hx hb (qaa qeO 5 rfl) (by decide) (fun c1 => ?_) (fun c1 => ?_)
    · have hw := hw.1 c1
      refine lv_iconst (v := 0) hx hb (qaa qIS 1 rfl) (by decide) ?_
      exact ((W.zret (v := 0) hx hb hr rfl (fun t ht hW => ⟨⟨0, (), rfl, hw, by rw [ht]; exact hP, va_K.moved hW.alike hK, hD⟩, hS.F ht⟩) hS.2.2 (qaa qIS 2 rfl)))
    · have hw := hw.2 c1
      refine lv_aload_n hx hb (qaa qeO 6 rfl) rfl (lv_at hl 0 rfl) ?_
      refine va_get (D := (dC, dI)) (ci := 2) (v := .ref jha) (C := RX2) (T := TX2) (N := 12) hx hb hts qwT hown hK hP 0 rfl rfl 0 (by decide) (hts _ qac4) (fun _ h9 => h9) rfl (qaa qeO 7 rfl) ?_
      refine lv_iload_n hx hb (qaa qeO 8 rfl) rfl (lv_at hl 1 rfl) ?_
      obtain ⟨hi9, hw⟩ := hw
      refine va_iald hx hb hK hP 1 1 rfl rfl hi9 (qaa qeO 9 rfl) ?_
      refine lv_topi (fun x2 ex2 => ?_)
      have hw := hw x2 ex2
      refine lv_aload_n hx hb (qaa qeO 10 rfl) rfl (lv_at hl 0 rfl) ?_
      refine va_get (D := (dC, dI)) (ci := 2) (v := .ref jjQ) (C := RX2) (T := TX2) (N := 12) hx hb hts qwT hown hK hP 0 rfl rfl 2 (by decide) (hts _ q9f) (fun _ h9 => h9) rfl (qaa qeO 11 rfl) ?_
      refine lv_iload_n hx hb (qaa qeO 12 rfl) rfl (lv_at hl 2 rfl) ?_
      obtain ⟨hi9, hw⟩ := hw
      refine va_iald hx hb hK hP 2 1 rfl rfl hi9 (qaa qeO 13 rfl) ?_
      refine lv_topi (fun x3 ex3 => ?_)
      have hw := hw x3 ex3
      refine lv_isub hx hb (qaa qeO 14 rfl) ?_
      refine va_mabs hx hb (by rw [hml]; exact hl.1.symm) hown (hts _ qNm) (hts _ qLv) (hts _ qNy) (hts _ qLH) (nbq rfl) (nbq rfl) (nbq rfl) (nbq rfl) (qaa qeO 15 rfl) ?_
      refine lv_topi (fun x4 ex4 => ?_)
      have hw := hw x4 ex4
      refine lv_aload_n hx hb (qaa qc5 0 rfl) rfl (lv_at hl 0 rfl) ?_
      refine va_get (D := (dC, dI)) (ci := 2) (v := .ref jhj) (C := RX2) (T := TX2) (N := 12) hx hb hts qwT hown hK hP 0 rfl rfl 1 (by decide) (hts _ q8v) (fun _ h9 => h9) rfl (qaa qc5 1 rfl) ?_
      refine lv_iload_n hx hb (qaa qc5 2 rfl) rfl (lv_at hl 1 rfl) ?_
      obtain ⟨hi9, hw⟩ := hw
      refine va_iald hx hb hK hP 3 1 rfl rfl hi9 (qaa qc5 3 rfl) ?_
      refine lv_topi (fun x5 ex5 => ?_)
      have hw := hw x5 ex5
      refine lv_aload_n hx hb (qaa qc5 4 rfl) rfl (lv_at hl 0 rfl) ?_
      refine va_get (D := (dC, dI)) (ci := 2) (v := .ref jjU) (C := RX2) (T := TX2) (N := 12) hx hb hts qwT hown hK hP 0 rfl rfl 3 (by decide) (hts _ q99) (fun _ h9 => h9) rfl (qaa qc5 5 rfl) ?_
      refine lv_iload_n hx hb (qaa qc5 6 rfl) rfl (lv_at hl 2 rfl) ?_
      obtain ⟨hi9, hw⟩ := hw
      refine va_iald hx hb hK hP 4 1 rfl rfl hi9 (qaa qc5 7 rfl) ?_
      refine lv_topi (fun x6 ex6 => ?_)
      have hw := hw x6 ex6
      refine lv_isub hx hb (qaa qc5 8 rfl) ?_
      refine va_mabs hx hb (by rw [hml]; exact hl.1.symm) hown (hts _ qNm) (hts _ qLv) (hts _ qNy) (hts _ qLH) (nbq rfl) (nbq rfl) (nbq rfl) (nbq rfl) (qaa qc5 9 rfl) ?_
      refine lv_topi (fun x7 ex7 => ?_)
      have hw := hw x7 ex7
      refine lv_iadd hx hb (qaa qc5 10 rfl) ?_
      refine lv_iconst (v := 3) hx hb (qaa qc5 11 rfl) (by decide) ?_
      refine lv_icmp_gt (tgt := 49) hx hb (qaa qc5 12 rfl) (by decide) (fun c8 => ?_) (fun c8 => ?_)
      · have hw := hw.1 c8
        obtain ⟨x9, ex9⟩ : ∃ y : Int32, y = l2 + 1 := ⟨_, rfl⟩
        have hw := hw x9 ex9
        refine lv_iinc (v := x9) (lv' := [(2, .int x9), (0, .ref a0), (1, .int l1)]) hx hb (qaa qc5 15 rfl) hl (k := 2) rfl (by rw [ex9]; rfl) (by decide) rfl (fun ls hl => ?_)
        refine lv_goto (tgt := 2) hx hb (qaa qIS 0 rfl) (by decide) ?_
        exact ih _ _ _ l1 x9 hP hD hS (lv_sub hl [1, 2, 0] rfl) hw
      · have hw := hw.2 c8
        refine lv_iconst (v := 1) hx hb (qaa qc5 13 rfl) (by decide) ?_
        exact ((W.zret (v := 1) hx hb hr rfl (fun t ht hW => ⟨⟨1, (), rfl, hw, by rw [ht]; exact hP, va_K.moved hW.alike hK, hD⟩, hS.F ht⟩) hS.2.2 (qaa qc5 14 rfl)))
set_option maxHeartbeats 4000000 in
set_option maxRecDepth 100000 in
theorem qawi (l : Launch) (dC : Nat → ClassId) (dI : Nat → Nat → Nat) (cyB cyI cyJ cyP : ClassId) (a0 jha jjQ jhj jjU sz : Nat) (jkJ jiU jj1 jjT ja0 ja4 jkk : Value) (jbw : Int32) (jiS jlB jiP jlx : NI) (p1 : Int32) {Q : Int32 → Prop} (hw : qQL jbw jiS jlB jiP jlx p1 Q) : Met l yX2_foxIsNear wsX2_foxIsNear ({ frames := 1, cells := 0, slots := 0, locals := 32 }) (va_Pc [.ref a0, .int p1] (cPc (dC, dI) (kT cyB cyI cyJ cyP) (qTO a0 jha jhj jjQ jjU jkJ jiU jj1 jjT ja0 ja4 jbw jkk jha cyI jiS jjQ cyI jlB jhj cyI jiP jjU cyI jlx) sz)) (va_Qi (fun (r : Int32) (_ : Unit) => Q r ) (cB (dC, dI) (kT cyB cyI cyJ cyP) (va_A (qTO a0 jha jhj jjQ jjU jkJ jiU jj1 jjT ja0 ja4 jbw jkk jha cyI jiS jjQ cyI jlB jhj cyI jiP jjU cyI jlx) sz) (fun u : Unit => ((qTO a0 jha jhj jjQ jjU jkJ jiU jj1 jjT ja0 ja4 jbw jkk jha cyI jiS jjQ cyI jlB jhj cyI jiP jjU cyI jlx) : va_W))) (va_A (qTO a0 jha jhj jjQ jjU jkJ jiU jj1 jjT ja0 ja4 jbw jkk jha cyI jiS jjQ cyI jlB jhj cyI jiP jjU cyI jlx) sz)) 0 0 (va_A (qTO a0 jha jhj jjQ jjU jkJ jiU jj1 jjT ja0 ja4 jbw jkk jha cyI jiS jjQ cyI jlB jhj cyI jiP jjU cyI jlx) sz) := by
  refine Met.ofW (cc := cX2_foxIsNear) (maxL := 3) (ret := (some .boolean)) (by decide) rfl ?_
  intro p e s m args below meth c s₁ B hml hv
  obtain ⟨rfl, hsz, hP, hK, hD0, hNw⟩ := hv
  have hx := B.exec
  have hb := B.bytes
  have hr := B.returns
  have hts := atoms_spec (ws := wsX2_foxIsNear) B.pre
  have hown : s.vm.findClass RX2 = some m.cls := findClass_of_methodNamed B.named
  have hlocks := B.notSynchronized
  subst hsz
  have hD := hD0.self (sz := s.heap.size)
  generalize hAe : va_A (qTO a0 jha jhj jjQ jjU jkJ jiU jj1 jjT ja0 ja4 jbw jkk jha cyI jiS jjQ cyI jlB jhj cyI jiP jjU cyI jlx) s.heap.size = A at hD ⊢
  have hA : ∀ q : Nat, s.heap.size ≤ q → A q := fun q h => by rw [← hAe]; exact Or.inr h
  have hS : va_S A s.heap s.heap [] := va_S.rf
  have hP : va_P (dC, dI) vwCl (qTO a0 jha jhj jjQ jjU jkJ jiU jj1 jjT ja0 ja4 jbw jkk jha cyI jiS jjQ cyI jlB jhj cyI jiP jjU cyI jlx) s.heap := hP
  have hl := lv_entry ([.ref a0, .int p1]) (n := 3) (nbq rfl)
  rw [lg_entry_eq]
  generalize (lg_sl ([.ref a0, .int p1]) ++ List.replicate (3 - (lg_sl ([.ref a0, .int p1])).length) Slot.unset).toArray = ls at hl ⊢
  have hl : lv_has ls 3 [(0, .ref a0), (1, .int p1)] := hl
  have C0 : cfx p s m _ meth c cX2_foxIsNear (some .boolean) wsX2_foxIsNear RX2 3 A (dC, dI) (kT cyB cyI cyJ cyP) := ⟨hx, hb, hr, hts, hown, hlocks, hml, hA, hK, hNw⟩
  clear hAe
  obtain ⟨H, hH⟩ : ∃ H, H = s.heap := ⟨_, rfl⟩
  rw [← hH] at hP ⊢
  have hS : va_S A s.heap H [] := by rw [hH]; exact va_S.rf
  have hS := hS
  refine lv_iconst (v := 0) hx hb (qaa qeO 0 rfl) (by decide) ?_
  refine lv_istore_n (lv' := [(2, .int 0), (0, .ref a0), (1, .int p1)]) hx hb (qaa qeO 1 rfl) rfl hl (by decide) rfl (fun ls hl => ?_)
  obtain ⟨n9, hw⟩ := hw
  exact qanY dC dI cyB cyI cyJ cyP a0 jha jjQ jhj jjU jkJ jiU jj1 jjT ja0 ja4 jkk jbw jiS jlB jiP jlx Q C0 n9 _ _ _ p1 0 hP hD hS (lv_sub hl [1, 2, 0] rfl) hw
theorem qDg : ∀ w ∈ u_ws RX2 TX2 12, w ∈ wsX2_findSafe := uiM qIb qLp (by decide +kernel)
theorem qFO : (.fieldLink RX2 101 "MarchHares$Down" "safe" "I" : Cond) ∈ wsX2_findSafe := qIb 1047 (by decide +kernel)
theorem qad0 : (.fieldLink RX2 36 "MarchHares$Down" "forms" "I" : Cond) ∈ wsX2_findSafe := qIb 720 (by decide +kernel)
set_option maxHeartbeats 4000000 in
set_option maxRecDepth 100000 in
theorem qVt {p : Program} {l : Launch} {e : Env} {s : State} {m : MethodId} {args : Array Value} {below : List Frame} {meth : Method} {c : Code} {A : Nat → Prop} (dC : Nat → ClassId) (dI : Nat → Nat → Nat) (cyB cyI cyJ cyP : ClassId) (a0 jha jjQ jhj jjU : Nat) (jkJ jiU jj1 jjT ja4 : Value) (jaN jbw : Int32) (jiS jlB jiP jlx : NI) (Q : Int32 → Prop) (K7 : Int32 → Int32 → Prop) (hK7 : ∀ (H : Heap) (locs : List Loc) (ls : Array Slot) (jmw l1 : Int32), va_P (dC, dI) vwCl (qv6 a0 jha jhj jjQ jjU jkJ jiU jj1 jjT jaN ja4 jbw jmw jha cyI jiS jjQ cyI jlB jhj cyI jiP jjU cyI jlx) H → va_D A (qv6 a0 jha jhj jjQ jjU jkJ jiU jj1 jjT jaN ja4 jbw jmw jha cyI jiS jjQ cyI jlB jhj cyI jiP jjU cyI jlx) → va_S A s.heap H locs → lv_has ls 2 [(0, .ref a0), (1, .int l1)] → K7 jmw l1 → W p l e (headSpec wsX2_findSafe ({ frames := 2, cells := 0, slots := 0, locals := 54 })).room s m args below meth c H locs 0 0 (MQ below (va_Qv (fun (u : Int32) => Q u) (cB (dC, dI) (kT cyB cyI cyJ cyP) A (fun u : Int32 => ((qv6 a0 jha jhj jjQ jjU jkJ jiU jj1 jjT jaN ja4 jbw u jha cyI jiS jjQ cyI jlB jhj cyI jiP jjU cyI jlx) : va_W))) A) args s 0 0 A) (F0 m 7 ls [])) (C0 : cfx p s m args meth c cX2_findSafe none wsX2_findSafe RX2 2 A (dC, dI) (kT cyB cyI cyJ cyP)) : ∀ (H : Heap) (locs : List Loc) (ls : Array Slot) (jmw l1 : Int32), va_P (dC, dI) vwCl (qv6 a0 jha jhj jjQ jjU jkJ jiU jj1 jjT jaN ja4 jbw jmw jha cyI jiS jjQ cyI jlB jhj cyI jiP jjU cyI jlx) H → va_D A (qv6 a0 jha jhj jjQ jjU jkJ jiU jj1 jjT jaN ja4 jbw jmw jha cyI jiS jjQ cyI jlB jhj cyI jiP jjU cyI jlx) → va_S A s.heap H locs → lv_has ls 2 [(0, .ref a0), (1, .int l1)] → qJB jaN jbw jiS jlB jiP jlx Q K7 jmw l1 → W p l e (headSpec wsX2_findSafe ({ frames := 2, cells := 0, slots := 0, locals := 54 })).room s m args below meth c H locs 0 0 (MQ below (va_Qv (fun (u : Int32) => Q u) (cB (dC, dI) (kT cyB cyI cyJ cyP) A (fun u : Int32 => ((qv6 a0 jha jhj jjQ jjU jkJ jiU jj1 jjT jaN ja4 jbw u jha cyI jiS jjQ cyI jlB jhj cyI jiP jjU cyI jlx) : va_W))) A) args s 0 0 A) (F0 m 35 ls []) := by
  obtain ⟨hx, hb, hr, hts, hown, hlocks, hml, hA, hK, hNw⟩ := id C0
  intro H locs ls jmw l1 hP hD hS hl hw
  obtain ⟨x5, ex5⟩ : ∃ y : Int32, y = l1 + 1 := ⟨_, rfl⟩
  have hw := hw x5 ex5
  refine lv_iinc (v := x5) (lv' := [(1, .int x5), (0, .ref a0)]) hx hb (qaa qrn 5 rfl) hl (k := 1) rfl (by rw [ex5]; rfl) (by decide) rfl (fun ls hl => ?_)
  refine lv_goto (tgt := 7) hx hb (qaa qrn 6 rfl) (by decide) ?_
  exact hK7 _ _ _ jmw x5 hP hD hS (lv_sub hl [1, 0] rfl) hw
set_option maxHeartbeats 4000000 in
set_option maxRecDepth 100000 in
theorem qauc {p : Program} {l : Launch} {e : Env} {s : State} {m : MethodId} {args : Array Value} {below : List Frame} {meth : Method} {c : Code} {A : Nat → Prop} (dC : Nat → ClassId) (dI : Nat → Nat → Nat) (cyB cyI cyJ cyP : ClassId) (a0 jha jjQ jhj jjU : Nat) (jkJ jiU jj1 jjT ja4 : Value) (jaN jbw : Int32) (jiS jlB jiP jlx : NI) (Q : Int32 → Prop) (C0 : cfx p s m args meth c cX2_findSafe none wsX2_findSafe RX2 2 A (dC, dI) (kT cyB cyI cyJ cyP)) : ∀ (n : Nat) (H : Heap) (locs : List Loc) (ls : Array Slot) (jmw l1 : Int32), va_P (dC, dI) vwCl (qv6 a0 jha jhj jjQ jjU jkJ jiU jj1 jjT jaN ja4 jbw jmw jha cyI jiS jjQ cyI jlB jhj cyI jiP jjU cyI jlx) H → va_D A (qv6 a0 jha jhj jjQ jjU jkJ jiU jj1 jjT jaN ja4 jbw jmw jha cyI jiS jjQ cyI jlB jhj cyI jiP jjU cyI jlx) → va_S A s.heap H locs → lv_has ls 2 [(0, .ref a0), (1, .int l1)] → qqW jaN jbw jiS jlB jiP jlx Q n jmw l1 → W p l e (headSpec wsX2_findSafe ({ frames := 2, cells := 0, slots := 0, locals := 54 })).room s m args below meth c H locs 0 0 (MQ below (va_Qv (fun (u : Int32) => Q u) (cB (dC, dI) (kT cyB cyI cyJ cyP) A (fun u : Int32 => ((qv6 a0 jha jhj jjQ jjU jkJ jiU jj1 jjT jaN ja4 jbw u jha cyI jiS jjQ cyI jlB jhj cyI jiP jjU cyI jlx) : va_W))) A) args s 0 0 A) (F0 m 7 ls []) := by
  obtain ⟨hx, hb, hr, hts, hown, hlocks, hml, hA, hK, hNw⟩ := id C0
  intro n
  induction n with
  | zero => intro H locs ls jmw l1 hP hD hS hl hw; exact False.elim hw
  | succ n ih =>
    intro H locs ls jmw l1 hP hD hS hl hw
    refine lv_iload_n hx hb (qaa qfq 5 rfl) rfl (lv_at hl 1 rfl) ?_
    refine lv_aload_n hx hb (qaa qfq 6 rfl) rfl (lv_at hl 0 rfl) ?_
    refine va_get (D := (dC, dI)) (ci := 2) (v := .int jaN) (C := RX2) (T := TX2) (N := 12) hx hb hts qDg hown hK hP 0 rfl rfl 8 (by decide) (hts _ qad0) (fun _ h9 => h9) rfl (qaa qfq 7 rfl) ?_
    refine lv_icmp_ge (tgt := 41) hx hb (qaa qfq 8 rfl) (by decide) (fun c1 => ?_) (fun c1 => ?_)
    · have hw := hw.1 c1
      exact ((W.vret hx hb hr (fun t ht hW => ⟨⟨(jmw), rfl, hw, by rw [ht]; exact hP, va_K.moved hW.alike hK, hD⟩, hS.F ht⟩) hS.2.2 (qaa qrn 7 rfl)))
    · have hw := hw.2 c1
      refine lv_aload_n hx hb (qaa qfq 9 rfl) rfl (lv_at hl 0 rfl) ?_
      refine lv_iload_n hx hb (qaa qfq 10 rfl) rfl (lv_at hl 1 rfl) ?_
      obtain ⟨hCc, hPc, hDc, hFc⟩ := qac (ws' := (qv6 a0 jha jhj jjQ jjU jkJ jiU jj1 jjT jaN ja4 jbw jmw jha cyI jiS jjQ cyI jlB jhj cyI jiP jjU cyI jlx)) hP hD hS hA [0, 1, 2, 3, 4] (by decide +kernel) rfl
      refine va_calli (va_runV (As := [.int l1]) (rest := []) ⟨hx, hb, hml, hown, hts⟩ (qawi l dC dI cyB cyI cyJ cyP a0 jha jjQ jhj jjU H.size (jkJ) (jiU) (jj1) (jjT) (.int jaN) (ja4) (.int jmw) jbw jiS jlB jiP jlx l1 hw) (cwV 1 hts gX2_findSafe_X2_foxIsNear rfl rfl rfl (by decide +kernel) ⟨nbq rfl, nbq rfl⟩) ⟨qab, va_recv (q := (RX2, TX2, 12)) hK hPc (ci := 2) (q0 := 0) rfl rfl, qae hPc hK hDc hNw⟩ rfl rfl hl.1 rfl (lv_room (nbq rfl)) (qaa qfq 11 rfl) ⟨nbq rfl, nbq rfl⟩) hS (fun q _ h => hFc q h) hFc (fun r2 u t H1 locs ht hvm hw hB hz1 hk1 hS => ?_)
      obtain ⟨hP1, hK1, hD1⟩ := hB
      rw [ht] at hP1
      obtain ⟨hP, hD⟩ := qah (wr := []) (w1 := (qv6 a0 jha jhj jjQ jjU jkJ jiU jj1 jjT jaN ja4 jbw jmw jha cyI jiS jjQ cyI jlB jhj cyI jiP jjU cyI jlx)) (wn := (qv6 a0 jha jhj jjQ jjU jkJ jiU jj1 jjT jaN ja4 jbw jmw jha cyI jiS jjQ cyI jlB jhj cyI jiP jjU cyI jlx)) hP hD [0, 1, 2, 3, 4] [] hCc rfl (by decide +kernel) (by decide +kernel) rfl hk1 hFc hP1 hD1
      generalize H1 = H at hP hS ⊢
      refine lv_if_ne (tgt := 35) hx hb (qaa qfq 12 rfl) (by decide) (fun c3 => ?_) (fun c3 => ?_)
      · have hw := hw.1 c3
        exact qVt dC dI cyB cyI cyJ cyP a0 jha jjQ jhj jjU jkJ jiU jj1 jjT ja4 jaN jbw jiS jlB jiP jlx Q (qqW jaN jbw jiS jlB jiP jlx Q n) ih C0 _ _ _ jmw l1 hP hD hS (lv_sub hl [0, 1] rfl) hw
      · have hw := hw.2 c3
        refine lv_aload_n hx hb (qaa qfq 13 rfl) rfl (lv_at hl 0 rfl) ?_
        refine lv_dup hx hb (qaa qfq 14 rfl) rfl ?_
        refine va_get (D := (dC, dI)) (ci := 2) (v := .int jmw) (C := RX2) (T := TX2) (N := 12) hx hb hts qDg hown hK hP 0 rfl rfl 11 (by decide) (hts _ qFO) (fun _ h9 => h9) rfl (qaa qfq 15 rfl) ?_
        refine lv_iconst (v := 1) hx hb (qaa qrn 0 rfl) (by decide) ?_
        refine lv_iload_n hx hb (qaa qrn 1 rfl) rfl (lv_at hl 1 rfl) ?_
        refine lv_ishl hx hb (qaa qrn 2 rfl) ?_
        refine lv_ior hx hb (qaa qrn 3 rfl) ?_
        refine lv_topi (fun x4 ex4 => ?_)
        have hw := hw x4 ex4
        refine va_put (D := (dC, dI)) (ci := 2) (v := .int x4) (ty := .int) (C := RX2) (T := TX2) (N := 12) hx hb hts qDg tyX2 tyX2_ok nmX2 hown hK hP hD hS 0 rfl rfl 11 (by decide) (hts _ qFO) (fun _ h9 => h9) rfl (by decide +kernel) rfl rfl (nbq rfl) (qaa qrn 4 rfl) (fun H locs hP hD hS => ?_)
        have hP : va_P (dC, dI) vwCl (qv6 a0 jha jhj jjQ jjU jkJ jiU jj1 jjT jaN ja4 jbw x4 jha cyI jiS jjQ cyI jlB jhj cyI jiP jjU cyI jlx) H := hP
        have hD : va_D A (qv6 a0 jha jhj jjQ jjU jkJ jiU jj1 jjT jaN ja4 jbw x4 jha cyI jiS jjQ cyI jlB jhj cyI jiP jjU cyI jlx) := hD
        exact qVt dC dI cyB cyI cyJ cyP a0 jha jjQ jhj jjU jkJ jiU jj1 jjT ja4 jaN jbw jiS jlB jiP jlx Q (qqW jaN jbw jiS jlB jiP jlx Q n) ih C0 _ _ _ x4 l1 hP hD hS (lv_sub hl [0, 1] rfl) hw
set_option maxHeartbeats 4000000 in
set_option maxRecDepth 100000 in
theorem qaEK (l : Launch) (dC : Nat → ClassId) (dI : Nat → Nat → Nat) (cyB cyI cyJ cyP : ClassId) (a0 jha jjQ jhj jjU sz : Nat) (jkJ jiU jj1 jjT ja4 : Value) (jaN jbw : Int32) (jiS jlB jiP jlx : NI) (jmw : Int32) {Q : Int32 → Prop} (hw : qKN jaN jbw jiS jlB jiP jlx jmw Q) : Met l yX2_findSafe wsX2_findSafe ({ frames := 2, cells := 0, slots := 0, locals := 54 }) (va_Pc [.ref a0] (cPc (dC, dI) (kT cyB cyI cyJ cyP) (qv6 a0 jha jhj jjQ jjU jkJ jiU jj1 jjT jaN ja4 jbw jmw jha cyI jiS jjQ cyI jlB jhj cyI jiP jjU cyI jlx) sz)) (va_Qv (fun (u : Int32) => Q u) (cB (dC, dI) (kT cyB cyI cyJ cyP) (va_A (qv6 a0 jha jhj jjQ jjU jkJ jiU jj1 jjT jaN ja4 jbw jmw jha cyI jiS jjQ cyI jlB jhj cyI jiP jjU cyI jlx) sz) (fun u : Int32 => ((qv6 a0 jha jhj jjQ jjU jkJ jiU jj1 jjT jaN ja4 jbw u jha cyI jiS jjQ cyI jlB jhj cyI jiP jjU cyI jlx) : va_W))) (va_A (qv6 a0 jha jhj jjQ jjU jkJ jiU jj1 jjT jaN ja4 jbw jmw jha cyI jiS jjQ cyI jlB jhj cyI jiP jjU cyI jlx) sz)) 0 0 (va_A (qv6 a0 jha jhj jjQ jjU jkJ jiU jj1 jjT jaN ja4 jbw jmw jha cyI jiS jjQ cyI jlB jhj cyI jiP jjU cyI jlx) sz) := by
  refine Met.ofW (cc := cX2_findSafe) (maxL := 2) (ret := none) (by decide) rfl ?_
  intro p e s m args below meth c s₁ B hml hv
  obtain ⟨rfl, hsz, hP, hK, hD0, hNw⟩ := hv
  have hx := B.exec
  have hb := B.bytes
  have hr := B.returns
  have hts := atoms_spec (ws := wsX2_findSafe) B.pre
  have hown : s.vm.findClass RX2 = some m.cls := findClass_of_methodNamed B.named
  have hlocks := B.notSynchronized
  subst hsz
  have hD := hD0.self (sz := s.heap.size)
  generalize hAe : va_A (qv6 a0 jha jhj jjQ jjU jkJ jiU jj1 jjT jaN ja4 jbw jmw jha cyI jiS jjQ cyI jlB jhj cyI jiP jjU cyI jlx) s.heap.size = A at hD ⊢
  have hA : ∀ q : Nat, s.heap.size ≤ q → A q := fun q h => by rw [← hAe]; exact Or.inr h
  have hS : va_S A s.heap s.heap [] := va_S.rf
  have hP : va_P (dC, dI) vwCl (qv6 a0 jha jhj jjQ jjU jkJ jiU jj1 jjT jaN ja4 jbw jmw jha cyI jiS jjQ cyI jlB jhj cyI jiP jjU cyI jlx) s.heap := hP
  have hl := lv_entry ([.ref a0]) (n := 2) (nbq rfl)
  rw [lg_entry_eq]
  generalize (lg_sl ([.ref a0]) ++ List.replicate (2 - (lg_sl ([.ref a0])).length) Slot.unset).toArray = ls at hl ⊢
  have hl : lv_has ls 2 [(0, .ref a0)] := hl
  have C0 : cfx p s m _ meth c cX2_findSafe none wsX2_findSafe RX2 2 A (dC, dI) (kT cyB cyI cyJ cyP) := ⟨hx, hb, hr, hts, hown, hlocks, hml, hA, hK, hNw⟩
  clear hAe
  obtain ⟨H, hH⟩ : ∃ H, H = s.heap := ⟨_, rfl⟩
  rw [← hH] at hP ⊢
  have hS : va_S A s.heap H [] := by rw [hH]; exact va_S.rf
  have hS := hS
  refine lv_aload_n hx hb (qaa qfq 0 rfl) rfl (lv_at hl 0 rfl) ?_
  refine lv_iconst (v := 0) hx hb (qaa qfq 1 rfl) (by decide) ?_
  refine va_put (D := (dC, dI)) (ci := 2) (v := .int 0) (ty := .int) (C := RX2) (T := TX2) (N := 12) hx hb hts qDg tyX2 tyX2_ok nmX2 hown hK hP hD hS 0 rfl rfl 11 (by decide) (hts _ qFO) (fun _ h9 => h9) rfl (by decide +kernel) rfl rfl (nbq rfl) (qaa qfq 2 rfl) (fun H locs hP hD hS => ?_)
  have hP : va_P (dC, dI) vwCl (qv6 a0 jha jhj jjQ jjU jkJ jiU jj1 jjT jaN ja4 jbw 0 jha cyI jiS jjQ cyI jlB jhj cyI jiP jjU cyI jlx) H := hP
  have hD : va_D A (qv6 a0 jha jhj jjQ jjU jkJ jiU jj1 jjT jaN ja4 jbw 0 jha cyI jiS jjQ cyI jlB jhj cyI jiP jjU cyI jlx) := hD
  refine lv_iconst (v := 0) hx hb (qaa qfq 3 rfl) (by decide) ?_
  refine lv_istore_n (lv' := [(1, .int 0), (0, .ref a0)]) hx hb (qaa qfq 4 rfl) rfl hl (by decide) rfl (fun ls hl => ?_)
  obtain ⟨n9, hw⟩ := hw
  exact qauc dC dI cyB cyI cyJ cyP a0 jha jjQ jhj jjU jkJ jiU jj1 jjT ja4 jaN jbw jiS jlB jiP jlx Q C0 n9 _ _ _ 0 0 hP hD hS (lv_sub hl [1, 0] rfl) hw
theorem qBO : ∀ w ∈ u_ws RX4 TX4 5, w ∈ wsX4_add := uiM qavj euX4 (by decide +kernel)
theorem qaQ1 : (.fieldLink RX4 15 "MarchHares$Law" "values" "[I" : Cond) ∈ wsX4_add := qavj 201 (by decide +kernel)
theorem qHc : (.fieldLink RX4 27 "MarchHares$Law" "length" "I" : Cond) ∈ wsX4_add := qavj 208 (by decide +kernel)
theorem qaTo : (.fieldLink RX4 9 "MarchHares$Law" "kinds" "[I" : Cond) ∈ wsX4_add := qavj 200 (by decide +kernel)
set_option maxHeartbeats 4000000 in
set_option maxRecDepth 100000 in
theorem qrr (l : Launch) (dC : Nat → ClassId) (dI : Nat → Nat → Nat) (cyB cyI cyJ cyP : ClassId) (a0 jbU jcK sz : Nat) (jhW jaE : Value) (jdC jfY : NI) (jb7 p1 p2 : Int32) {Q : NI → NI → Int32 → Prop} (hw : qoY jdC jfY jb7 p1 p2 Q) : Met l yX4_add wsX4_add ({ frames := 0, cells := 0, slots := 0, locals := 0 }) (va_Pc [.ref a0, .int p1, .int p2] (cPc (dC, dI) (kT cyB cyI cyJ cyP) (qoK a0 jbU jcK jhW jaE jb7 jbU cyI jdC jcK cyI jfY) sz)) (va_Qv (fun (u : NI × NI × Int32) => Q u.1 u.2.1 u.2.2) (cB (dC, dI) (kT cyB cyI cyJ cyP) (va_A (qoK a0 jbU jcK jhW jaE jb7 jbU cyI jdC jcK cyI jfY) sz) (fun u : NI × NI × Int32 => ((qoK a0 jbU jcK jhW jaE u.2.2 jbU cyI u.1 jcK cyI u.2.1) : va_W))) (va_A (qoK a0 jbU jcK jhW jaE jb7 jbU cyI jdC jcK cyI jfY) sz)) 0 0 (va_A (qoK a0 jbU jcK jhW jaE jb7 jbU cyI jdC jcK cyI jfY) sz) := by
  refine Met.ofW (cc := cX4_add) (maxL := 3) (ret := none) (by decide) rfl ?_
  intro p e s m args below meth c s₁ B hml hv
  obtain ⟨rfl, hsz, hP, hK, hD0, hNw⟩ := hv
  have hx := B.exec
  have hb := B.bytes
  have hr := B.returns
  have hts := atoms_spec (ws := wsX4_add) B.pre
  have hown : s.vm.findClass RX4 = some m.cls := findClass_of_methodNamed B.named
  have hlocks := B.notSynchronized
  subst hsz
  have hD := hD0.self (sz := s.heap.size)
  generalize hAe : va_A (qoK a0 jbU jcK jhW jaE jb7 jbU cyI jdC jcK cyI jfY) s.heap.size = A at hD ⊢
  have hA : ∀ q : Nat, s.heap.size ≤ q → A q := fun q h => by rw [← hAe]; exact Or.inr h
  have hS : va_S A s.heap s.heap [] := va_S.rf
  have hP : va_P (dC, dI) vwCl (qoK a0 jbU jcK jhW jaE jb7 jbU cyI jdC jcK cyI jfY) s.heap := hP
  have hl := lv_entry ([.ref a0, .int p1, .int p2]) (n := 3) (nbq rfl)
  rw [lg_entry_eq]
  generalize (lg_sl ([.ref a0, .int p1, .int p2]) ++ List.replicate (3 - (lg_sl ([.ref a0, .int p1, .int p2])).length) Slot.unset).toArray = ls at hl ⊢
  have hl : lv_has ls 3 [(0, .ref a0), (1, .int p1), (2, .int p2)] := hl
  have C0 : cfx p s m _ meth c cX4_add none wsX4_add RX4 3 A (dC, dI) (kT cyB cyI cyJ cyP) := ⟨hx, hb, hr, hts, hown, hlocks, hml, hA, hK, hNw⟩
  clear hAe
  obtain ⟨H, hH⟩ : ∃ H, H = s.heap := ⟨_, rfl⟩
  rw [← hH] at hP ⊢
  have hS : va_S A s.heap H [] := by rw [hH]; exact va_S.rf
  have hS := hS
  refine lv_aload_n hx hb (qaa qp2 0 rfl) rfl (lv_at hl 0 rfl) ?_
  refine va_get (D := (dC, dI)) (ci := 4) (v := .int jb7) (C := RX4) (T := TX4) (N := 5) hx hb hts qBO hown hK hP 0 rfl rfl 4 (by decide) (hts _ qHc) (fun _ h9 => h9) rfl (qaa qp2 1 rfl) ?_
  refine lv_sipush (v := 150) hx hb (qaa qp2 2 rfl) (by decide) ?_
  refine lv_icmp_ge (tgt := 40) hx hb (qaa qp2 3 rfl) (by decide) (fun c1 => ?_) (fun c1 => ?_)
  · have hw := hw.1 c1
    exact ((W.vret hx hb hr (fun t ht hW => ⟨⟨(jdC, jfY, jb7), rfl, hw, by rw [ht]; exact hP, va_K.moved hW.alike hK, hD⟩, hS.F ht⟩) hS.2.2 (qaa qy7 6 rfl)))
  · have hw := hw.2 c1
    refine lv_aload_n hx hb (qaa qp2 4 rfl) rfl (lv_at hl 0 rfl) ?_
    refine va_get (D := (dC, dI)) (ci := 4) (v := .ref jbU) (C := RX4) (T := TX4) (N := 5) hx hb hts qBO hown hK hP 0 rfl rfl 0 (by decide) (hts _ qaTo) (fun _ h9 => h9) rfl (qaa qp2 5 rfl) ?_
    refine lv_aload_n hx hb (qaa qp2 6 rfl) rfl (lv_at hl 0 rfl) ?_
    refine va_get (D := (dC, dI)) (ci := 4) (v := .int jb7) (C := RX4) (T := TX4) (N := 5) hx hb hts qBO hown hK hP 0 rfl rfl 4 (by decide) (hts _ qHc) (fun _ h9 => h9) rfl (qaa qp2 7 rfl) ?_
    refine lv_iload_n hx hb (qaa qp2 8 rfl) rfl (lv_at hl 1 rfl) ?_
    obtain ⟨hi9, hw⟩ := hw
    refine va_iast hx hb hK hP hD hS 1 1 rfl rfl hi9 (qaa qp2 9 rfl) (fun H locs hP hD hS => ?_)
    obtain ⟨f2, ef2⟩ : ∃ y : NI, y = upd jdC jb7.toNatClampNeg p1 := ⟨_, rfl⟩
    have hw := hw f2 ef2
    have hP : va_P (dC, dI) vwCl (qoK a0 jbU jcK jhW jaE jb7 jbU cyI f2 jcK cyI jfY) H := by rw [ef2]; exact hP
    have hD : va_D A (qoK a0 jbU jcK jhW jaE jb7 jbU cyI f2 jcK cyI jfY) := by rw [ef2]; exact hD
    refine lv_aload_n hx hb (qaa qp2 10 rfl) rfl (lv_at hl 0 rfl) ?_
    refine va_get (D := (dC, dI)) (ci := 4) (v := .ref jcK) (C := RX4) (T := TX4) (N := 5) hx hb hts qBO hown hK hP 0 rfl rfl 1 (by decide) (hts _ qaQ1) (fun _ h9 => h9) rfl (qaa qp2 11 rfl) ?_
    refine lv_aload_n hx hb (qaa qp2 12 rfl) rfl (lv_at hl 0 rfl) ?_
    refine va_get (D := (dC, dI)) (ci := 4) (v := .int jb7) (C := RX4) (T := TX4) (N := 5) hx hb hts qBO hown hK hP 0 rfl rfl 4 (by decide) (hts _ qHc) (fun _ h9 => h9) rfl (qaa qp2 13 rfl) ?_
    refine lv_iload_n hx hb (qaa qp2 14 rfl) rfl (lv_at hl 2 rfl) ?_
    obtain ⟨hi9, hw⟩ := hw
    refine va_iast hx hb hK hP hD hS 2 1 rfl rfl hi9 (qaa qp2 15 rfl) (fun H locs hP hD hS => ?_)
    obtain ⟨f3, ef3⟩ : ∃ y : NI, y = upd jfY jb7.toNatClampNeg p2 := ⟨_, rfl⟩
    have hw := hw f3 ef3
    have hP : va_P (dC, dI) vwCl (qoK a0 jbU jcK jhW jaE jb7 jbU cyI f2 jcK cyI f3) H := by rw [ef3]; exact hP
    have hD : va_D A (qoK a0 jbU jcK jhW jaE jb7 jbU cyI f2 jcK cyI f3) := by rw [ef3]; exact hD
    refine lv_aload_n hx hb (qaa qy7 0 rfl) rfl (lv_at hl 0 rfl) ?_
    refine lv_dup hx hb (qaa qy7 1 rfl) rfl ?_
    refine va_get (D := (dC, dI)) (ci := 4) (v := .int jb7) (C := RX4) (T := TX4) (N := 5) hx hb hts qBO hown hK hP 0 rfl rfl 4 (by decide) (hts _ qHc) (fun _ h9 => h9) rfl (qaa qy7 2 rfl) ?_
    refine lv_iconst (v := 1) hx hb (qaa qy7 3 rfl) (by decide) ?_
    refine lv_iadd hx hb (qaa qy7 4 rfl) ?_
    refine lv_topi (fun x4 ex4 => ?_)
    have hw := hw x4 ex4
    refine va_put (D := (dC, dI)) (ci := 4) (v := .int x4) (ty := .int) (C := RX4) (T := TX4) (N := 5) hx hb hts qBO tyX4 tyX4_ok nmX4 hown hK hP hD hS 0 rfl rfl 4 (by decide) (hts _ qHc) (fun _ h9 => h9) rfl (by decide +kernel) rfl rfl (nbq rfl) (qaa qy7 5 rfl) (fun H locs hP hD hS => ?_)
    have hP : va_P (dC, dI) vwCl (qoK a0 jbU jcK jhW jaE x4 jbU cyI f2 jcK cyI f3) H := hP
    have hD : va_D A (qoK a0 jbU jcK jhW jaE x4 jbU cyI f2 jcK cyI f3) := hD
    exact ((W.vret hx hb hr (fun t ht hW => ⟨⟨(f2, f3, x4), rfl, hw, by rw [ht]; exact hP, va_K.moved hW.alike hK, hD⟩, hS.F ht⟩) hS.2.2 (qaa qy7 6 rfl)))
theorem qanz : ∀ w ∈ u_ws RX4 TX4 5, w ∈ wsX4_setPlain := uiM qOg euX4 (by decide +kernel)
theorem qacG : (.fieldLink RX4 27 "MarchHares$Law" "length" "I" : Cond) ∈ wsX4_setPlain := qOg 208 (by decide +kernel)
set_option maxHeartbeats 4000000 in
set_option maxRecDepth 100000 in
theorem q8a (l : Launch) (dC : Nat → ClassId) (dI : Nat → Nat → Nat) (cyB cyI cyJ cyP : ClassId) (a0 jbU jcK sz : Nat) (jhW jaE : Value) (jb7 : Int32) (jdC jfY : NI) {Q : Int32 → NI → NI → Prop} (hw : qxG jb7 jdC jfY Q) : Met l yX4_setPlain wsX4_setPlain ({ frames := 1, cells := 0, slots := 0, locals := 22 }) (va_Pc [.ref a0] (cPc (dC, dI) (kT cyB cyI cyJ cyP) (qoK a0 jbU jcK jhW jaE jb7 jbU cyI jdC jcK cyI jfY) sz)) (va_Qv (fun (u : Int32 × NI × NI) => Q u.1 u.2.1 u.2.2) (cB (dC, dI) (kT cyB cyI cyJ cyP) (va_A (qoK a0 jbU jcK jhW jaE jb7 jbU cyI jdC jcK cyI jfY) sz) (fun u : Int32 × NI × NI => ((qoK a0 jbU jcK jhW jaE u.1 jbU cyI u.2.1 jcK cyI u.2.2) : va_W))) (va_A (qoK a0 jbU jcK jhW jaE jb7 jbU cyI jdC jcK cyI jfY) sz)) 0 0 (va_A (qoK a0 jbU jcK jhW jaE jb7 jbU cyI jdC jcK cyI jfY) sz) := by
  refine Met.ofW (cc := cX4_setPlain) (maxL := 1) (ret := none) (by decide) rfl ?_
  intro p e s m args below meth c s₁ B hml hv
  obtain ⟨rfl, hsz, hP, hK, hD0, hNw⟩ := hv
  have hx := B.exec
  have hb := B.bytes
  have hr := B.returns
  have hts := atoms_spec (ws := wsX4_setPlain) B.pre
  have hown : s.vm.findClass RX4 = some m.cls := findClass_of_methodNamed B.named
  have hlocks := B.notSynchronized
  subst hsz
  have hD := hD0.self (sz := s.heap.size)
  generalize hAe : va_A (qoK a0 jbU jcK jhW jaE jb7 jbU cyI jdC jcK cyI jfY) s.heap.size = A at hD ⊢
  have hA : ∀ q : Nat, s.heap.size ≤ q → A q := fun q h => by rw [← hAe]; exact Or.inr h
  have hS : va_S A s.heap s.heap [] := va_S.rf
  have hP : va_P (dC, dI) vwCl (qoK a0 jbU jcK jhW jaE jb7 jbU cyI jdC jcK cyI jfY) s.heap := hP
  have hl := lv_entry ([.ref a0]) (n := 1) (nbq rfl)
  rw [lg_entry_eq]
  generalize (lg_sl ([.ref a0]) ++ List.replicate (1 - (lg_sl ([.ref a0])).length) Slot.unset).toArray = ls at hl ⊢
  have hl : lv_has ls 1 [(0, .ref a0)] := hl
  have C0 : cfx p s m _ meth c cX4_setPlain none wsX4_setPlain RX4 1 A (dC, dI) (kT cyB cyI cyJ cyP) := ⟨hx, hb, hr, hts, hown, hlocks, hml, hA, hK, hNw⟩
  clear hAe
  obtain ⟨H, hH⟩ : ∃ H, H = s.heap := ⟨_, rfl⟩
  rw [← hH] at hP ⊢
  have hS : va_S A s.heap H [] := by rw [hH]; exact va_S.rf
  have hS := hS
  refine lv_aload_n hx hb (qaa qf0 0 rfl) rfl (lv_at hl 0 rfl) ?_
  refine lv_iconst (v := 0) hx hb (qaa qf0 1 rfl) (by decide) ?_
  refine va_put (D := (dC, dI)) (ci := 4) (v := .int 0) (ty := .int) (C := RX4) (T := TX4) (N := 5) hx hb hts qanz tyX4 tyX4_ok nmX4 hown hK hP hD hS 0 rfl rfl 4 (by decide) (hts _ qacG) (fun _ h9 => h9) rfl (by decide +kernel) rfl rfl (nbq rfl) (qaa qf0 2 rfl) (fun H locs hP hD hS => ?_)
  have hP : va_P (dC, dI) vwCl (qoK a0 jbU jcK jhW jaE 0 jbU cyI jdC jcK cyI jfY) H := hP
  have hD : va_D A (qoK a0 jbU jcK jhW jaE 0 jbU cyI jdC jcK cyI jfY) := hD
  refine lv_aload_n hx hb (qaa qf0 3 rfl) rfl (lv_at hl 0 rfl) ?_
  refine lv_iconst (v := 0) hx hb (qaa qf0 4 rfl) (by decide) ?_
  refine lv_iconst (v := 4) hx hb (qaa qf0 5 rfl) (by decide) ?_
  obtain ⟨hCc, hPc, hDc, hFc⟩ := qac (ws' := (qoK a0 jbU jcK jhW jaE 0 jbU cyI jdC jcK cyI jfY)) hP hD hS hA [0, 1, 2] (by decide +kernel) rfl
  refine va_callv (va_runV (As := [.int 0, .int 4]) (rest := []) ⟨hx, hb, hml, hown, hts⟩ (qrr l dC dI cyB cyI cyJ cyP a0 jbU jcK H.size (jhW) (jaE) jdC jfY 0 0 4 hw) (cwV 2 hts gX4_setPlain_X4_add rfl rfl rfl (by decide +kernel) ⟨nbq rfl, nbq rfl⟩) ⟨qab, va_recv (q := (RX4, TX4, 5)) hK hPc (ci := 4) (q0 := 0) rfl rfl, qae hPc hK hDc hNw⟩ rfl rfl hl.1 rfl (lv_room (nbq rfl)) (qaa qf0 6 rfl) ⟨nbq rfl, nbq rfl⟩) hS (fun q _ h => hFc q h) hFc (fun u t H1 locs ht hvm hw hB hz1 hk1 hS => ?_)
  obtain ⟨f1, f2, x3⟩ := u
  obtain ⟨hP1, hK1, hD1⟩ := hB
  rw [ht] at hP1
  obtain ⟨hP, hD⟩ := qah (wr := []) (w1 := (qoK a0 jbU jcK jhW jaE x3 jbU cyI f1 jcK cyI f2)) (wn := (qoK a0 jbU jcK jhW jaE x3 jbU cyI f1 jcK cyI f2)) hP hD [0, 1, 2] [] hCc rfl (by decide +kernel) (by decide +kernel) rfl hk1 hFc hP1 hD1
  generalize H1 = H at hP hS ⊢
  refine lv_aload_n hx hb (qaa qf0 7 rfl) rfl (lv_at hl 0 rfl) ?_
  refine lv_iconst (v := 1) hx hb (qaa qf0 8 rfl) (by decide) ?_
  refine lv_iconst (v := 0) hx hb (qaa qf0 9 rfl) (by decide) ?_
  obtain ⟨hCc, hPc, hDc, hFc⟩ := qac (ws' := (qoK a0 jbU jcK jhW jaE x3 jbU cyI f1 jcK cyI f2)) hP hD hS hA [0, 1, 2] (by decide +kernel) rfl
  refine va_callv (va_runV (As := [.int 1, .int 0]) (rest := []) ⟨hx, hb, hml, hown, hts⟩ (qrr l dC dI cyB cyI cyJ cyP a0 jbU jcK H.size (jhW) (jaE) f1 f2 x3 1 0 hw) (cwV 2 hts gX4_setPlain_X4_add rfl rfl rfl (by decide +kernel) ⟨nbq rfl, nbq rfl⟩) ⟨qab, va_recv (q := (RX4, TX4, 5)) hK hPc (ci := 4) (q0 := 0) rfl rfl, qae hPc hK hDc hNw⟩ rfl rfl hl.1 rfl (lv_room (nbq rfl)) (qaa qf0 10 rfl) ⟨nbq rfl, nbq rfl⟩) hS (fun q _ h => hFc q h) hFc (fun u t H1 locs ht hvm hw hB hz1 hk1 hS => ?_)
  obtain ⟨f4, f5, x6⟩ := u
  obtain ⟨hP1, hK1, hD1⟩ := hB
  rw [ht] at hP1
  obtain ⟨hP, hD⟩ := qah (wr := []) (w1 := (qoK a0 jbU jcK jhW jaE x6 jbU cyI f4 jcK cyI f5)) (wn := (qoK a0 jbU jcK jhW jaE x6 jbU cyI f4 jcK cyI f5)) hP hD [0, 1, 2] [] hCc rfl (by decide +kernel) (by decide +kernel) rfl hk1 hFc hP1 hD1
  generalize H1 = H at hP hS ⊢
  refine lv_aload_n hx hb (qaa qf0 11 rfl) rfl (lv_at hl 0 rfl) ?_
  refine lv_iconst (v := 2) hx hb (qaa qf0 12 rfl) (by decide) ?_
  refine lv_iconst (v := 0) hx hb (qaa qf0 13 rfl) (by decide) ?_
  obtain ⟨hCc, hPc, hDc, hFc⟩ := qac (ws' := (qoK a0 jbU jcK jhW jaE x6 jbU cyI f4 jcK cyI f5)) hP hD hS hA [0, 1, 2] (by decide +kernel) rfl
  refine va_callv (va_runV (As := [.int 2, .int 0]) (rest := []) ⟨hx, hb, hml, hown, hts⟩ (qrr l dC dI cyB cyI cyJ cyP a0 jbU jcK H.size (jhW) (jaE) f4 f5 x6 2 0 hw) (cwV 2 hts gX4_setPlain_X4_add rfl rfl rfl (by decide +kernel) ⟨nbq rfl, nbq rfl⟩) ⟨qab, va_recv (q := (RX4, TX4, 5)) hK hPc (ci := 4) (q0 := 0) rfl rfl, qae hPc hK hDc hNw⟩ rfl rfl hl.1 rfl (lv_room (nbq rfl)) (qaa qf0 14 rfl) ⟨nbq rfl, nbq rfl⟩) hS (fun q _ h => hFc q h) hFc (fun u t H1 locs ht hvm hw hB hz1 hk1 hS => ?_)
  obtain ⟨f7, f8, x9⟩ := u
  obtain ⟨hP1, hK1, hD1⟩ := hB
  rw [ht] at hP1
  obtain ⟨hP, hD⟩ := qah (wr := []) (w1 := (qoK a0 jbU jcK jhW jaE x9 jbU cyI f7 jcK cyI f8)) (wn := (qoK a0 jbU jcK jhW jaE x9 jbU cyI f7 jcK cyI f8)) hP hD [0, 1, 2] [] hCc rfl (by decide +kernel) (by decide +kernel) rfl hk1 hFc hP1 hD1
  generalize H1 = H at hP hS ⊢
  refine lv_aload_n hx hb (qaa qf0 15 rfl) rfl (lv_at hl 0 rfl) ?_
  refine lv_iconst (v := 1) hx hb (qaa qrC 0 rfl) (by decide) ?_
  refine lv_iconst (v := 1) hx hb (qaa qrC 1 rfl) (by decide) ?_
  obtain ⟨hCc, hPc, hDc, hFc⟩ := qac (ws' := (qoK a0 jbU jcK jhW jaE x9 jbU cyI f7 jcK cyI f8)) hP hD hS hA [0, 1, 2] (by decide +kernel) rfl
  refine va_callv (va_runV (As := [.int 1, .int 1]) (rest := []) ⟨hx, hb, hml, hown, hts⟩ (qrr l dC dI cyB cyI cyJ cyP a0 jbU jcK H.size (jhW) (jaE) f7 f8 x9 1 1 hw) (cwV 2 hts gX4_setPlain_X4_add rfl rfl rfl (by decide +kernel) ⟨nbq rfl, nbq rfl⟩) ⟨qab, va_recv (q := (RX4, TX4, 5)) hK hPc (ci := 4) (q0 := 0) rfl rfl, qae hPc hK hDc hNw⟩ rfl rfl hl.1 rfl (lv_room (nbq rfl)) (qaa qrC 2 rfl) ⟨nbq rfl, nbq rfl⟩) hS (fun q _ h => hFc q h) hFc (fun u t H1 locs ht hvm hw hB hz1 hk1 hS => ?_)
  obtain ⟨f10, f11, x12⟩ := u
  obtain ⟨hP1, hK1, hD1⟩ := hB
  rw [ht] at hP1
  obtain ⟨hP, hD⟩ := qah (wr := []) (w1 := (qoK a0 jbU jcK jhW jaE x12 jbU cyI f10 jcK cyI f11)) (wn := (qoK a0 jbU jcK jhW jaE x12 jbU cyI f10 jcK cyI f11)) hP hD [0, 1, 2] [] hCc rfl (by decide +kernel) (by decide +kernel) rfl hk1 hFc hP1 hD1
  generalize H1 = H at hP hS ⊢
  refine lv_aload_n hx hb (qaa qrC 3 rfl) rfl (lv_at hl 0 rfl) ?_
  refine lv_iconst (v := 3) hx hb (qaa qrC 4 rfl) (by decide) ?_
  refine lv_iconst (v := 0) hx hb (qaa qrC 5 rfl) (by decide) ?_
  obtain ⟨hCc, hPc, hDc, hFc⟩ := qac (ws' := (qoK a0 jbU jcK jhW jaE x12 jbU cyI f10 jcK cyI f11)) hP hD hS hA [0, 1, 2] (by decide +kernel) rfl
  refine va_callv (va_runV (As := [.int 3, .int 0]) (rest := []) ⟨hx, hb, hml, hown, hts⟩ (qrr l dC dI cyB cyI cyJ cyP a0 jbU jcK H.size (jhW) (jaE) f10 f11 x12 3 0 hw) (cwV 2 hts gX4_setPlain_X4_add rfl rfl rfl (by decide +kernel) ⟨nbq rfl, nbq rfl⟩) ⟨qab, va_recv (q := (RX4, TX4, 5)) hK hPc (ci := 4) (q0 := 0) rfl rfl, qae hPc hK hDc hNw⟩ rfl rfl hl.1 rfl (lv_room (nbq rfl)) (qaa qrC 6 rfl) ⟨nbq rfl, nbq rfl⟩) hS (fun q _ h => hFc q h) hFc (fun u t H1 locs ht hvm hw hB hz1 hk1 hS => ?_)
  obtain ⟨f13, f14, x15⟩ := u
  obtain ⟨hP1, hK1, hD1⟩ := hB
  rw [ht] at hP1
  obtain ⟨hP, hD⟩ := qah (wr := []) (w1 := (qoK a0 jbU jcK jhW jaE x15 jbU cyI f13 jcK cyI f14)) (wn := (qoK a0 jbU jcK jhW jaE x15 jbU cyI f13 jcK cyI f14)) hP hD [0, 1, 2] [] hCc rfl (by decide +kernel) (by decide +kernel) rfl hk1 hFc hP1 hD1
  generalize H1 = H at hP hS ⊢
  exact ((W.vret hx hb hr (fun t ht hW => ⟨⟨(x15, f13, f14), rfl, hw, by rw [ht]; exact hP, va_K.moved hW.alike hK, hD⟩, hS.F ht⟩) hS.2.2 (qaa qrC 7 rfl)))
theorem qxR : ∀ w ∈ u_ws RX1 TX1 4, w ∈ wsX1_begin := uiM qvx qWg (by decide +kernel)
theorem qKH : ∀ w ∈ u_ws RX2 TX2 12, w ∈ wsX1_begin := uiM qvx qLp (by decide +kernel)
theorem qaDj : (.initialized "java/lang/System" : Cond) ∈ wsX1_begin := qvx 331 (by decide +kernel)
theorem qavw : (.native arraycopyName : Cond) ∈ wsX1_begin := qvx 329 (by decide +kernel)
theorem qaya : (.static arraycopyName : Cond) ∈ wsX1_begin := qvx 330 (by decide +kernel)
theorem qBI : (.fieldLink RX1 13 "MarchHares$Days" "row" "[I" : Cond) ∈ wsX1_begin := qvx 276 (by decide +kernel)
theorem qaDr : (.fieldLink RX1 24 "MarchHares$Days" "down" "LMarchHares$Down;" : Cond) ∈ wsX1_begin := qvx 322 (by decide +kernel)
theorem qaEl : (.fieldLink RX1 28 "MarchHares$Days" "law" "LMarchHares$Law;" : Cond) ∈ wsX1_begin := qvx 323 (by decide +kernel)
theorem qaxK : (.fieldLink RX1 32 "MarchHares$Down" "hares" "I" : Cond) ∈ wsX1_begin := qvx 324 (by decide +kernel)
theorem qaCX : (.fieldLink RX1 36 "MarchHares$Down" "seat" "[I" : Cond) ∈ wsX1_begin := qvx 325 (by decide +kernel)
theorem qazg : (.fieldLink RX1 39 "MarchHares$Down" "strength" "[I" : Cond) ∈ wsX1_begin := qvx 326 (by decide +kernel)
theorem qaxV : (.fieldLink RX1 42 "MarchHares$Down" "debts" "[I" : Cond) ∈ wsX1_begin := qvx 327 (by decide +kernel)
theorem qavX : (.methodLink RX1 45 arraycopyName : Cond) ∈ wsX1_begin := qvx 328 (by decide +kernel)
set_option maxHeartbeats 4000000 in
set_option maxRecDepth 100000 in
theorem qaKo {p : Program} {l : Launch} {e : Env} {s : State} {m : MethodId} {args : Array Value} {below : List Frame} {meth : Method} {c : Code} {A : Nat → Prop} (dC : Nat → ClassId) (dI : Nat → Nat → Nat) (cyB cyI cyJ cyP : ClassId) (a0 a1 a2 jch jmO jnd jmh : Nat) (jcD jpf jo9 jov jow jlD jlE jlF jnY jlf jlG : Value) (jnS : Int32) (jnV joi jmW : NI) (Q : NI → Prop) (C0 : cfx p s m args meth c cX1_begin none wsX1_begin RX1 4 A (dC, dI) (kT cyB cyI cyJ cyP)) : ∀ (n : Nat) (H : Heap) (locs : List Loc) (ls : Array Slot) (jdE : NI) (l3 : Int32), va_P (dC, dI) vwCl (qzh a0 jch jcD a1 a2 jch cyI jdE a1 jov jow jlD jlE jnd jmh jmO jlF jnY jnS jlf jlG jmO cyI jnV jnd cyI joi jmh cyI jmW) H → va_D A (qzh a0 jch jcD a1 a2 jch cyI jdE a1 jov jow jlD jlE jnd jmh jmO jlF jnY jnS jlf jlG jmO cyI jnV jnd cyI joi jmh cyI jmW) → va_S A s.heap H locs → lv_has ls 4 [(0, .ref a0), (1, .ref a1), (3, .int l3)] → qD8 jnS jnV joi jmW Q n jdE l3 → W p l e (headSpec wsX1_begin ({ frames := 1, cells := 0, slots := 0, locals := 40 })).room s m args below meth c H locs 0 0 (MQ below (va_Qv (fun (u : NI) => Q u) (cB (dC, dI) (kT cyB cyI cyJ cyP) A (fun u : NI => ((qzh a0 jch jcD a1 a2 jch cyI u a1 jov jow jlD jlE jnd jmh jmO jlF jnY jnS jlf jlG jmO cyI jnV jnd cyI joi jmh cyI jmW) : va_W))) A) args s 0 0 A) (F0 m 40 ls []) := by
  obtain ⟨hx, hb, hr, hts, hown, hlocks, hml, hA, hK, hNw⟩ := id C0
  intro n
  induction n with
  | zero => intro H locs ls jdE l3 hP hD hS hl hw; exact False.elim hw
  | succ n ih =>
    intro H locs ls jdE l3 hP hD hS hl hw
    refine lv_iload_n hx hb (qaa qj1 9 rfl) rfl (lv_at hl 2 rfl) ?_
    refine lv_aload_n hx hb (qaa qj1 10 rfl) rfl (lv_at hl 1 rfl) ?_
    refine va_get (D := (dC, dI)) (ci := 2) (v := .int jnS) (C := RX2) (T := TX2) (N := 12) hx hb hts qKH hown hK hP 2 rfl rfl 9 (by decide) (hts _ qaxK) (fun _ h9 => h9) rfl (qaa qj1 11 rfl) ?_
    refine lv_icmp_ge (tgt := 83) hx hb (qaa qj1 12 rfl) (by decide) (fun c5 => ?_) (fun c5 => ?_)
    · have hw := hw.1 c5
      refine lv_aload_n hx hb (qaa qpq 3 rfl) rfl (lv_at hl 1 rfl) ?_
      refine va_get (D := (dC, dI)) (ci := 2) (v := .ref jmO) (C := RX2) (T := TX2) (N := 12) hx hb hts qKH hown hK hP 2 rfl rfl 6 (by decide) (hts _ qaxV) (fun _ h9 => h9) rfl (qaa qpq 4 rfl) ?_
      refine lv_iconst (v := 0) hx hb (qaa qpq 5 rfl) (by decide) ?_
      refine lv_aload_n hx hb (qaa qpq 6 rfl) rfl (lv_at hl 0 rfl) ?_
      refine va_get (D := (dC, dI)) (ci := 1) (v := .ref jch) (C := RX1) (T := TX1) (N := 4) hx hb hts qxR hown hK hP 0 rfl rfl 0 (by decide) (hts _ qBI) (fun _ h9 => h9) rfl (qaa qpq 7 rfl) ?_
      refine lv_bipush (v := 28) hx hb (qaa qpq 8 rfl) (by decide) ?_
      refine lv_bipush (v := 36) hx hb (qaa qpq 9 rfl) (by decide) ?_
      refine va_copyi hx hb (by rw [hml]; exact hl.1.symm) hown (hts _ qavX) (hts _ qavw) (hts _ qaya) (hts _ qaDj) hK hP hD hS 3 1 1 1 rfl rfl rfl rfl rfl (by decide) (by decide) (by decide) (by decide) (by decide) (fun _ _ => rfl) (nbq rfl) (nbq rfl) (qaa qpq 10 rfl) (fun H locs hP hD hS => ?_)
      obtain ⟨f6, ef6⟩ : ∃ y : NI, y = va_cpy jnV jdE (0 : Int32).toNatClampNeg (28 : Int32).toNatClampNeg (36 : Int32).toNatClampNeg := ⟨_, rfl⟩
      have hw := hw f6 ef6
      have hP : va_P (dC, dI) vwCl (qzh a0 jch jcD a1 a2 jch cyI f6 a1 jov jow jlD jlE jnd jmh jmO jlF jnY jnS jlf jlG jmO cyI jnV jnd cyI joi jmh cyI jmW) H := by rw [ef6]; exact hP
      have hD : va_D A (qzh a0 jch jcD a1 a2 jch cyI f6 a1 jov jow jlD jlE jnd jmh jmO jlF jnY jnS jlf jlG jmO cyI jnV jnd cyI joi jmh cyI jmW) := by rw [ef6]; exact hD
      exact ((W.vret hx hb hr (fun t ht hW => ⟨⟨(f6), rfl, hw, by rw [ht]; exact hP, va_K.moved hW.alike hK, hD⟩, hS.F ht⟩) hS.2.2 (qaa qpq 11 rfl)))
    · have hw := hw.2 c5
      refine lv_aload_n hx hb (qaa qj1 13 rfl) rfl (lv_at hl 0 rfl) ?_
      refine va_get (D := (dC, dI)) (ci := 1) (v := .ref jch) (C := RX1) (T := TX1) (N := 4) hx hb hts qxR hown hK hP 0 rfl rfl 0 (by decide) (hts _ qBI) (fun _ h9 => h9) rfl (qaa qj1 14 rfl) ?_
      refine lv_iconst (v := 4) hx hb (qaa qj1 15 rfl) (by decide) ?_
      refine lv_iload_n hx hb (qaa qke 0 rfl) rfl (lv_at hl 2 rfl) ?_
      refine lv_iadd hx hb (qaa qke 1 rfl) ?_
      refine lv_topi (fun x7 ex7 => ?_)
      have hw := hw x7 ex7
      refine lv_aload_n hx hb (qaa qke 2 rfl) rfl (lv_at hl 1 rfl) ?_
      refine va_get (D := (dC, dI)) (ci := 2) (v := .ref jnd) (C := RX2) (T := TX2) (N := 12) hx hb hts qKH hown hK hP 2 rfl rfl 4 (by decide) (hts _ qaCX) (fun _ h9 => h9) rfl (qaa qke 3 rfl) ?_
      refine lv_iload_n hx hb (qaa qke 4 rfl) rfl (lv_at hl 2 rfl) ?_
      obtain ⟨hi9, hw⟩ := hw
      refine va_iald hx hb hK hP 4 1 rfl rfl hi9 (qaa qke 5 rfl) ?_
      refine lv_topi (fun x8 ex8 => ?_)
      have hw := hw x8 ex8
      obtain ⟨hi9, hw⟩ := hw
      refine va_iast hx hb hK hP hD hS 1 1 rfl rfl hi9 (qaa qke 6 rfl) (fun H locs hP hD hS => ?_)
      obtain ⟨f9, ef9⟩ : ∃ y : NI, y = upd jdE x7.toNatClampNeg x8 := ⟨_, rfl⟩
      have hw := hw f9 ef9
      have hP : va_P (dC, dI) vwCl (qzh a0 jch jcD a1 a2 jch cyI f9 a1 jov jow jlD jlE jnd jmh jmO jlF jnY jnS jlf jlG jmO cyI jnV jnd cyI joi jmh cyI jmW) H := by rw [ef9]; exact hP
      have hD : va_D A (qzh a0 jch jcD a1 a2 jch cyI f9 a1 jov jow jlD jlE jnd jmh jmO jlF jnY jnS jlf jlG jmO cyI jnV jnd cyI joi jmh cyI jmW) := by rw [ef9]; exact hD
      refine lv_aload_n hx hb (qaa qke 7 rfl) rfl (lv_at hl 0 rfl) ?_
      refine va_get (D := (dC, dI)) (ci := 1) (v := .ref jch) (C := RX1) (T := TX1) (N := 4) hx hb hts qxR hown hK hP 0 rfl rfl 0 (by decide) (hts _ qBI) (fun _ h9 => h9) rfl (qaa qke 8 rfl) ?_
      refine lv_bipush (v := 10) hx hb (qaa qke 9 rfl) (by decide) ?_
      refine lv_iload_n hx hb (qaa qke 10 rfl) rfl (lv_at hl 2 rfl) ?_
      refine lv_iadd hx hb (qaa qke 11 rfl) ?_
      refine lv_topi (fun x10 ex10 => ?_)
      have hw := hw x10 ex10
      refine lv_aload_n hx hb (qaa qke 12 rfl) rfl (lv_at hl 1 rfl) ?_
      refine va_get (D := (dC, dI)) (ci := 2) (v := .ref jmh) (C := RX2) (T := TX2) (N := 12) hx hb hts qKH hown hK hP 2 rfl rfl 5 (by decide) (hts _ qazg) (fun _ h9 => h9) rfl (qaa qke 13 rfl) ?_
      refine lv_iload_n hx hb (qaa qke 14 rfl) rfl (lv_at hl 2 rfl) ?_
      obtain ⟨hi9, hw⟩ := hw
      refine va_iald hx hb hK hP 5 1 rfl rfl hi9 (qaa qke 15 rfl) ?_
      refine lv_topi (fun x11 ex11 => ?_)
      have hw := hw x11 ex11
      obtain ⟨hi9, hw⟩ := hw
      refine va_iast hx hb hK hP hD hS 1 1 rfl rfl hi9 (qaa qpq 0 rfl) (fun H locs hP hD hS => ?_)
      obtain ⟨f12, ef12⟩ : ∃ y : NI, y = upd f9 x10.toNatClampNeg x11 := ⟨_, rfl⟩
      have hw := hw f12 ef12
      have hP : va_P (dC, dI) vwCl (qzh a0 jch jcD a1 a2 jch cyI f12 a1 jov jow jlD jlE jnd jmh jmO jlF jnY jnS jlf jlG jmO cyI jnV jnd cyI joi jmh cyI jmW) H := by rw [ef12]; exact hP
      have hD : va_D A (qzh a0 jch jcD a1 a2 jch cyI f12 a1 jov jow jlD jlE jnd jmh jmO jlF jnY jnS jlf jlG jmO cyI jnV jnd cyI joi jmh cyI jmW) := by rw [ef12]; exact hD
      obtain ⟨x13, ex13⟩ : ∃ y : Int32, y = l3 + 1 := ⟨_, rfl⟩
      have hw := hw x13 ex13
      refine lv_iinc (v := x13) (lv' := [(3, .int x13), (0, .ref a0), (1, .ref a1)]) hx hb (qaa qpq 1 rfl) hl (k := 2) rfl (by rw [ex13]; rfl) (by decide) rfl (fun ls hl => ?_)
      refine lv_goto (tgt := 40) hx hb (qaa qpq 2 rfl) (by decide) ?_
      exact ih _ _ _ f12 x13 hP hD hS (lv_sub hl [1, 2, 0] rfl) hw
set_option maxHeartbeats 4000000 in
set_option maxRecDepth 100000 in
theorem qaKk {p : Program} {l : Launch} {e : Env} {s : State} {m : MethodId} {args : Array Value} {below : List Frame} {meth : Method} {c : Code} {A : Nat → Prop} (dC : Nat → ClassId) (dI : Nat → Nat → Nat) (cyB cyI cyJ cyP : ClassId) (a0 a1 a2 jch jmO jnd jmh : Nat) (jcD jpf jo9 jov jow jlD jlE jlF jnY jlf jlG : Value) (jnS : Int32) (jnV joi jmW : NI) (Q : NI → Prop) (C0 : cfx p s m args meth c cX1_begin none wsX1_begin RX1 4 A (dC, dI) (kT cyB cyI cyJ cyP)) : ∀ (n : Nat) (H : Heap) (locs : List Loc) (ls : Array Slot) (jdE : NI) (l3 : Int32), va_P (dC, dI) vwCl (qzh a0 jch jcD a1 a2 jch cyI jdE a1 jov jow jlD jlE jnd jmh jmO jlF jnY jnS jlf jlG jmO cyI jnV jnd cyI joi jmh cyI jmW) H → va_D A (qzh a0 jch jcD a1 a2 jch cyI jdE a1 jov jow jlD jlE jnd jmh jmO jlF jnY jnS jlf jlG jmO cyI jnV jnd cyI joi jmh cyI jmW) → va_S A s.heap H locs → lv_has ls 4 [(0, .ref a0), (1, .ref a1), (3, .int l3)] → qEp jnS jnV joi jmW Q n jdE l3 → W p l e (headSpec wsX1_begin ({ frames := 1, cells := 0, slots := 0, locals := 40 })).room s m args below meth c H locs 0 0 (MQ below (va_Qv (fun (u : NI) => Q u) (cB (dC, dI) (kT cyB cyI cyJ cyP) A (fun u : NI => ((qzh a0 jch jcD a1 a2 jch cyI u a1 jov jow jlD jlE jnd jmh jmO jlF jnY jnS jlf jlG jmO cyI jnV jnd cyI joi jmh cyI jmW) : va_W))) A) args s 0 0 A) (F0 m 12 ls []) := by
  obtain ⟨hx, hb, hr, hts, hown, hlocks, hml, hA, hK, hNw⟩ := id C0
  intro n
  induction n with
  | zero => intro H locs ls jdE l3 hP hD hS hl hw; exact False.elim hw
  | succ n ih =>
    intro H locs ls jdE l3 hP hD hS hl hw
    refine lv_iload_n hx hb (qaa qlW 8 rfl) rfl (lv_at hl 2 rfl) ?_
    refine lv_bipush (v := 64) hx hb (qaa qlW 9 rfl) (by decide) ?_
    refine lv_icmp_ge (tgt := 31) hx hb (qaa qlW 10 rfl) (by decide) (fun c1 => ?_) (fun c1 => ?_)
    · have hw := hw.1 c1
      refine lv_aload_n hx hb (qaa qj1 2 rfl) rfl (lv_at hl 0 rfl) ?_
      refine va_get (D := (dC, dI)) (ci := 1) (v := .ref jch) (C := RX1) (T := TX1) (N := 4) hx hb hts qxR hown hK hP 0 rfl rfl 0 (by decide) (hts _ qBI) (fun _ h9 => h9) rfl (qaa qj1 3 rfl) ?_
      refine lv_iconst (v := 0) hx hb (qaa qj1 4 rfl) (by decide) ?_
      refine lv_iconst (v := 1) hx hb (qaa qj1 5 rfl) (by decide) ?_
      refine va_iast hx hb hK hP hD hS 1 1 rfl rfl (vin (by decide)) (qaa qj1 6 rfl) (fun H locs hP hD hS => ?_)
      obtain ⟨f2, ef2⟩ : ∃ y : NI, y = upd jdE (0 : Int32).toNatClampNeg 1 := ⟨_, rfl⟩
      have hw := hw f2 ef2
      have hP : va_P (dC, dI) vwCl (qzh a0 jch jcD a1 a2 jch cyI f2 a1 jov jow jlD jlE jnd jmh jmO jlF jnY jnS jlf jlG jmO cyI jnV jnd cyI joi jmh cyI jmW) H := by rw [ef2]; exact hP
      have hD : va_D A (qzh a0 jch jcD a1 a2 jch cyI f2 a1 jov jow jlD jlE jnd jmh jmO jlF jnY jnS jlf jlG jmO cyI jnV jnd cyI joi jmh cyI jmW) := by rw [ef2]; exact hD
      refine lv_iconst (v := 0) hx hb (qaa qj1 7 rfl) (by decide) ?_
      refine lv_istore_n (lv' := [(3, .int 0), (0, .ref a0), (1, .ref a1)]) hx hb (qaa qj1 8 rfl) rfl hl (by decide) rfl (fun ls hl => ?_)
      obtain ⟨n9, hw⟩ := hw
      exact qaKo dC dI cyB cyI cyJ cyP a0 a1 a2 jch jmO jnd jmh jcD jpf jo9 jov jow jlD jlE jlF jnY jlf jlG jnS jnV joi jmW Q C0 n9 _ _ _ f2 0 hP hD hS (lv_sub hl [1, 2, 0] rfl) hw
    · have hw := hw.2 c1
      refine lv_aload_n hx hb (qaa qlW 11 rfl) rfl (lv_at hl 0 rfl) ?_
      refine va_get (D := (dC, dI)) (ci := 1) (v := .ref jch) (C := RX1) (T := TX1) (N := 4) hx hb hts qxR hown hK hP 0 rfl rfl 0 (by decide) (hts _ qBI) (fun _ h9 => h9) rfl (qaa qlW 12 rfl) ?_
      refine lv_iload_n hx hb (qaa qlW 13 rfl) rfl (lv_at hl 2 rfl) ?_
      refine lv_iconst (v := 0) hx hb (qaa qlW 14 rfl) (by decide) ?_
      obtain ⟨hi9, hw⟩ := hw
      refine va_iast hx hb hK hP hD hS 1 1 rfl rfl hi9 (qaa qlW 15 rfl) (fun H locs hP hD hS => ?_)
      obtain ⟨f3, ef3⟩ : ∃ y : NI, y = upd jdE l3.toNatClampNeg 0 := ⟨_, rfl⟩
      have hw := hw f3 ef3
      have hP : va_P (dC, dI) vwCl (qzh a0 jch jcD a1 a2 jch cyI f3 a1 jov jow jlD jlE jnd jmh jmO jlF jnY jnS jlf jlG jmO cyI jnV jnd cyI joi jmh cyI jmW) H := by rw [ef3]; exact hP
      have hD : va_D A (qzh a0 jch jcD a1 a2 jch cyI f3 a1 jov jow jlD jlE jnd jmh jmO jlF jnY jnS jlf jlG jmO cyI jnV jnd cyI joi jmh cyI jmW) := by rw [ef3]; exact hD
      obtain ⟨x4, ex4⟩ : ∃ y : Int32, y = l3 + 1 := ⟨_, rfl⟩
      have hw := hw x4 ex4
      refine lv_iinc (v := x4) (lv' := [(3, .int x4), (0, .ref a0), (1, .ref a1)]) hx hb (qaa qj1 0 rfl) hl (k := 2) rfl (by rw [ex4]; rfl) (by decide) rfl (fun ls hl => ?_)
      refine lv_goto (tgt := 12) hx hb (qaa qj1 1 rfl) (by decide) ?_
      exact ih _ _ _ f3 x4 hP hD hS (lv_sub hl [1, 2, 0] rfl) hw
set_option maxHeartbeats 4000000 in
set_option maxRecDepth 100000 in
theorem qazr (l : Launch) (dC : Nat → ClassId) (dI : Nat → Nat → Nat) (cyB cyI cyJ cyP : ClassId) (a0 a1 a2 jch jmO jnd jmh sz : Nat) (jcD jpf jo9 jov jow jlD jlE jlF jnY jlf jlG : Value) (jnS : Int32) (jnV joi jmW jdE : NI) {Q : NI → Prop} (hw : qFW jnS jnV joi jmW jdE Q) : Met l yX1_begin wsX1_begin ({ frames := 1, cells := 0, slots := 0, locals := 40 }) (va_Pc [.ref a0, .ref a1, .ref a2] (cPc (dC, dI) (kT cyB cyI cyJ cyP) (qam3 a0 jch jcD jpf jo9 jch cyI jdE a1 jov jow jlD jlE jnd jmh jmO jlF jnY jnS jlf jlG jmO cyI jnV jnd cyI joi jmh cyI jmW) sz)) (va_Qv (fun (u : NI) => Q u) (cB (dC, dI) (kT cyB cyI cyJ cyP) (va_A (qam3 a0 jch jcD jpf jo9 jch cyI jdE a1 jov jow jlD jlE jnd jmh jmO jlF jnY jnS jlf jlG jmO cyI jnV jnd cyI joi jmh cyI jmW) sz) (fun u : NI => ((qzh a0 jch jcD a1 a2 jch cyI u a1 jov jow jlD jlE jnd jmh jmO jlF jnY jnS jlf jlG jmO cyI jnV jnd cyI joi jmh cyI jmW) : va_W))) (va_A (qam3 a0 jch jcD jpf jo9 jch cyI jdE a1 jov jow jlD jlE jnd jmh jmO jlF jnY jnS jlf jlG jmO cyI jnV jnd cyI joi jmh cyI jmW) sz)) 0 0 (va_A (qam3 a0 jch jcD jpf jo9 jch cyI jdE a1 jov jow jlD jlE jnd jmh jmO jlF jnY jnS jlf jlG jmO cyI jnV jnd cyI joi jmh cyI jmW) sz) := by
  refine Met.ofW (cc := cX1_begin) (maxL := 4) (ret := none) (by decide) rfl ?_
  intro p e s m args below meth c s₁ B hml hv
  obtain ⟨rfl, hsz, hP, hK, hD0, hNw⟩ := hv
  have hx := B.exec
  have hb := B.bytes
  have hr := B.returns
  have hts := atoms_spec (ws := wsX1_begin) B.pre
  have hown : s.vm.findClass RX1 = some m.cls := findClass_of_methodNamed B.named
  have hlocks := B.notSynchronized
  subst hsz
  have hD := hD0.self (sz := s.heap.size)
  generalize hAe : va_A (qam3 a0 jch jcD jpf jo9 jch cyI jdE a1 jov jow jlD jlE jnd jmh jmO jlF jnY jnS jlf jlG jmO cyI jnV jnd cyI joi jmh cyI jmW) s.heap.size = A at hD ⊢
  have hA : ∀ q : Nat, s.heap.size ≤ q → A q := fun q h => by rw [← hAe]; exact Or.inr h
  have hS : va_S A s.heap s.heap [] := va_S.rf
  have hP : va_P (dC, dI) vwCl (qam3 a0 jch jcD jpf jo9 jch cyI jdE a1 jov jow jlD jlE jnd jmh jmO jlF jnY jnS jlf jlG jmO cyI jnV jnd cyI joi jmh cyI jmW) s.heap := hP
  have hl := lv_entry ([.ref a0, .ref a1, .ref a2]) (n := 4) (nbq rfl)
  rw [lg_entry_eq]
  generalize (lg_sl ([.ref a0, .ref a1, .ref a2]) ++ List.replicate (4 - (lg_sl ([.ref a0, .ref a1, .ref a2])).length) Slot.unset).toArray = ls at hl ⊢
  have hl : lv_has ls 4 [(0, .ref a0), (1, .ref a1), (2, .ref a2)] := hl
  have C0 : cfx p s m _ meth c cX1_begin none wsX1_begin RX1 4 A (dC, dI) (kT cyB cyI cyJ cyP) := ⟨hx, hb, hr, hts, hown, hlocks, hml, hA, hK, hNw⟩
  clear hAe
  obtain ⟨H, hH⟩ : ∃ H, H = s.heap := ⟨_, rfl⟩
  rw [← hH] at hP ⊢
  have hS : va_S A s.heap H [] := by rw [hH]; exact va_S.rf
  have hS := hS
  refine lv_aload_n hx hb (qaa qlW 0 rfl) rfl (lv_at hl 0 rfl) ?_
  refine lv_aload_n hx hb (qaa qlW 1 rfl) rfl (lv_at hl 1 rfl) ?_
  refine va_put (D := (dC, dI)) (ci := 1) (v := .ref a1) (ty := .object "MarchHares$Down") (C := RX1) (T := TX1) (N := 4) hx hb hts qxR tyX1 tyX1_ok nmX1 hown hK hP hD hS 0 rfl rfl 2 (by decide) (hts _ qaDr) (fun _ h9 => h9) rfl (by decide +kernel) rfl rfl (nbq rfl) (qaa qlW 2 rfl) (fun H locs hP hD hS => ?_)
  have hP : va_P (dC, dI) vwCl (qa8I a0 jch jcD a1 jo9 jch cyI jdE a1 jov jow jlD jlE jnd jmh jmO jlF jnY jnS jlf jlG jmO cyI jnV jnd cyI joi jmh cyI jmW) H := hP
  have hD : va_D A (qa8I a0 jch jcD a1 jo9 jch cyI jdE a1 jov jow jlD jlE jnd jmh jmO jlF jnY jnS jlf jlG jmO cyI jnV jnd cyI joi jmh cyI jmW) := hD
  refine lv_aload_n hx hb (qaa qlW 3 rfl) rfl (lv_at hl 0 rfl) ?_
  refine lv_aload_n hx hb (qaa qlW 4 rfl) rfl (lv_at hl 2 rfl) ?_
  refine va_put (D := (dC, dI)) (ci := 1) (v := .ref a2) (ty := .object "MarchHares$Law") (C := RX1) (T := TX1) (N := 4) hx hb hts qxR tyX1 tyX1_ok nmX1 hown hK hP hD hS 0 rfl rfl 3 (by decide) (hts _ qaEl) (fun _ h9 => h9) rfl (by decide +kernel) rfl rfl (nbq rfl) (qaa qlW 5 rfl) (fun H locs hP hD hS => ?_)
  have hP : va_P (dC, dI) vwCl (qzh a0 jch jcD a1 a2 jch cyI jdE a1 jov jow jlD jlE jnd jmh jmO jlF jnY jnS jlf jlG jmO cyI jnV jnd cyI joi jmh cyI jmW) H := hP
  have hD : va_D A (qzh a0 jch jcD a1 a2 jch cyI jdE a1 jov jow jlD jlE jnd jmh jmO jlF jnY jnS jlf jlG jmO cyI jnV jnd cyI joi jmh cyI jmW) := hD
  refine lv_iconst (v := 0) hx hb (qaa qlW 6 rfl) (by decide) ?_
  refine lv_istore_n (lv' := [(3, .int 0), (0, .ref a0), (1, .ref a1), (2, .ref a2)]) hx hb (qaa qlW 7 rfl) rfl hl (by decide) rfl (fun ls hl => ?_)
  obtain ⟨n9, hw⟩ := hw
  exact qaKk dC dI cyB cyI cyJ cyP a0 a1 a2 jch jmO jnd jmh jcD jpf jo9 jov jow jlD jlE jlF jnY jlf jlG jnS jnV joi jmW Q C0 n9 _ _ _ jdE 0 hP hD hS (lv_sub hl [1, 2, 0] rfl) hw
