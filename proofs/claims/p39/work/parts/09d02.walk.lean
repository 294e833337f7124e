/-- worlds by their leaves -/
def qJe (x0 : Nat) (x1 : Value) (x2 : Nat) (x3 x4 x5 x6 x7 x8 x9 x10 x11 x12 x13 x14 x15 x16 x17 : Value) (x18 : Int32) (x19 : Value) (x20 x21 x22 : Nat) (x23 x24 x25 x26 x27 x28 : Value) (x29 : Int32) (x30 x31 x32 : Value) (x33 : Nat) (x34 : ClassId) (x35 : NI) (x36 : Nat) (x37 : ClassId) (x38 : NI) : va_W := [(x0, .inr (10, [x1, .ref x2, x3, x4, x5, x6, x7, x8, x9, x10, x11, x12, x13, x14, x15, x16, x17, .int x18, x19])), (x20, .inr (2, [.ref x21, .ref x22, x23, x24, x25, x26, x27, x28, .int x29, x30, x31, x32])), (x33, .inl (x34, 8, .inl x35)), (x36, .inl (x37, 8, .inl x38))]
def qaLc (x0 : Nat) (x1 : Value) (x2 : Nat) (x3 x4 x5 x6 x7 x8 x9 x10 x11 x12 x13 x14 x15 x16 x17 : Value) (x18 : Int32) (x19 : Value) (x20 x21 x22 : Nat) (x23 x24 x25 x26 x27 x28 : Value) (x29 : Int32) (x30 x31 x32 : Value) : va_W := [(x0, .inr (10, [x1, .ref x2, x3, x4, x5, x6, x7, x8, x9, x10, x11, x12, x13, x14, x15, x16, x17, .int x18, x19])), (x20, .inr (2, [.ref x21, .ref x22, x23, x24, x25, x26, x27, x28, .int x29, x30, x31, x32]))]
def qa07 (x0 : Nat) (x1 : ClassId) (x2 : NI) (x3 : Nat) (x4 : ClassId) (x5 : NI) : va_W := [(x0, .inl (x1, 8, .inl x2)), (x3, .inl (x4, 8, .inl x5))]
def qnr (x0 x1 x2 : Nat) (x3 x4 x5 x6 x7 x8 : Value) (x9 : Int32) (x10 x11 x12 : Value) (x13 : Nat) (x14 : ClassId) (x15 : NI) (x16 : Nat) (x17 : ClassId) (x18 : NI) : va_W := [(x0, .inr (2, [.ref x1, .ref x2, x3, x4, x5, x6, x7, x8, .int x9, x10, x11, x12])), (x13, .inl (x14, 8, .inl x15)), (x16, .inl (x17, 8, .inl x18))]
def qZE (x0 : Nat) (x1 : Value) (x2 : Nat) (x3 x4 x5 x6 x7 x8 x9 x10 x11 x12 x13 x14 x15 x16 x17 : Value) (x18 : Int32) (x19 : Value) (x20 x21 x22 : Nat) (x23 x24 x25 x26 x27 x28 : Value) (x29 : Int32) (x30 x31 x32 : Value) (x33 : Nat) (x34 : ClassId) (x35 : NI) (x36 : Nat) (x37 : ClassId) (x38 : NI) (x39 : Nat) (x40 : ClassId) (x41 : Nat) (x42 : Nat → Int64) : va_W := [(x0, .inr (10, [x1, .ref x2, x3, x4, x5, x6, x7, x8, x9, x10, x11, x12, x13, x14, x15, x16, x17, .int x18, x19])), (x20, .inr (2, [.ref x21, .ref x22, x23, x24, x25, x26, x27, x28, .int x29, x30, x31, x32])), (x33, .inl (x34, 8, .inl x35)), (x36, .inl (x37, 8, .inl x38)), (x39, .inl (x40, x41, .inr (.inl x42)))]
def qna (x0 : Nat) (x1 x2 x3 x4 x5 x6 x7 x8 x9 x10 x11 x12 x13 x14 x15 x16 x17 x18 : Value) (x19 : Int32) : va_W := [(x0, .inr (10, [x1, x2, x3, x4, x5, x6, x7, x8, x9, x10, x11, x12, x13, x14, x15, x16, x17, x18, .int x19]))]
def qZR (x0 : Nat) (x1 x2 x3 x4 x5 x6 x7 x8 x9 x10 x11 x12 x13 x14 x15 x16 x17 x18 : Value) (x19 : Int32) (x20 : Nat) (x21 : ClassId) (x22 : Nat) (x23 : Nat → Int64) : va_W := [(x0, .inr (10, [x1, x2, x3, x4, x5, x6, x7, x8, x9, x10, x11, x12, x13, x14, x15, x16, x17, x18, .int x19])), (x20, .inl (x21, x22, .inr (.inl x23)))]
def q7R (x0 x1 x2 : Nat) (x3 x4 x5 x6 x7 x8 x9 x10 x11 : Value) (x12 : Nat) (x13 : ClassId) (x14 : NI) (x15 : Nat) (x16 : ClassId) (x17 : NI) : va_W := [(x0, .inr (3, [.ref x1, .ref x2, x3, x4, x5, x6, x7, x8, x9, x10, x11])), (x12, .inl (x13, 8, .inl x14)), (x15, .inl (x16, 6, .inl x17))]
def qVW (x0 x1 : Nat) (x2 : Value) (x3 : Nat) (x4 : ClassId) (x5 : NI) : va_W := [(x0, .inr (0, [.ref x1, x2])), (x3, .inl (x4, 8, .inl x5))]
def qZB (x0 x1 x2 : Nat) (x3 x4 x5 : Value) (x6 : Int32) (x7 : Nat) (x8 x9 x10 x11 : Value) (x12 : Nat) (x13 : ClassId) (x14 : NI) (x15 : Nat) (x16 : ClassId) (x17 : NI) (x18 x19 : Nat) (x20 : Value) (x21 : Nat) (x22 : ClassId) (x23 : NI) : va_W := [(x0, .inr (3, [.ref x1, .ref x2, x3, x4, x5, .int x6, .ref x7, x8, x9, x10, x11])), (x12, .inl (x13, 8, .inl x14)), (x15, .inl (x16, 6, .inl x17)), (x18, .inr (0, [.ref x19, x20])), (x21, .inl (x22, 8, .inl x23))]
def qaWl (x0 x1 x2 : Nat) (x3 x4 x5 : Value) (x6 : Int32) (x7 : Nat) (x8 x9 x10 x11 : Value) (x12 : Nat) (x13 : ClassId) (x14 : NI) (x15 : Nat) (x16 : ClassId) (x17 : NI) : va_W := [(x0, .inr (3, [.ref x1, .ref x2, x3, x4, x5, .int x6, .ref x7, x8, x9, x10, x11])), (x12, .inl (x13, 8, .inl x14)), (x15, .inl (x16, 6, .inl x17))]
def qsc (x0 x1 x2 : Nat) (x3 x4 x5 : Value) (x6 : Int32) (x7 : Nat) (x8 x9 : Int32) (x10 x11 : Value) (x12 : Nat) (x13 : ClassId) (x14 : NI) (x15 : Nat) (x16 : ClassId) (x17 : NI) (x18 x19 : Nat) (x20 : Value) (x21 : Nat) (x22 : ClassId) (x23 : NI) : va_W := [(x0, .inr (3, [.ref x1, .ref x2, x3, x4, x5, .int x6, .ref x7, .int x8, .int x9, x10, x11])), (x12, .inl (x13, 8, .inl x14)), (x15, .inl (x16, 6, .inl x17)), (x18, .inr (0, [.ref x19, x20])), (x21, .inl (x22, 8, .inl x23))]
def qqF (x0 x1 x2 x3 : Nat) (x4 : Value) (x5 x6 : Int32) (x7 : Nat) (x8 x9 : Int32) (x10 x11 : Value) (x12 x13 : Nat) (x14 : Value) (x15 : Nat) (x16 : Value) (x17 : Nat) (x18 x19 x20 x21 x22 x23 x24 x25 : Value) (x26 x27 : Int32) (x28 x29 : Value) (x30 : Nat) (x31 : ClassId) (x32 : NI) (x33 : Nat) (x34 : ClassId) (x35 : NI) (x36 : Nat) (x37 : ClassId) (x38 : NI) (x39 x40 : Nat) (x41 : Value) (x42 : Nat) (x43 : ClassId) (x44 : NI) (x45 : Nat) (x46 : ClassId) (x47 : NI) : va_W := [(x0, .inr (3, [.ref x1, .ref x2, .ref x3, x4, .int x5, .int x6, .ref x7, .int x8, .int x9, x10, x11])), (x12, .inr (1, [.ref x13, x14, .ref x15, x16])), (x17, .inr (2, [x18, x19, x20, x21, x22, x23, x24, x25, .int x26, .int x27, x28, x29])), (x30, .inl (x31, 64, .inl x32)), (x33, .inl (x34, 8, .inl x35)), (x36, .inl (x37, 6, .inl x38)), (x39, .inr (0, [.ref x40, x41])), (x42, .inl (x43, 8, .inl x44)), (x45, .inl (x46, 6, .inl x47))]
def qaSi (x0 x1 : Nat) (x2 : Value) (x3 : Nat) (x4 : Value) (x5 : Nat) (x6 : ClassId) (x7 : NI) : va_W := [(x0, .inr (1, [.ref x1, x2, .ref x3, x4])), (x5, .inl (x6, 64, .inl x7))]
def qa3X (x0 x1 x2 x3 : Nat) (x4 : Value) (x5 x6 : Int32) (x7 : Nat) (x8 x9 : Int32) (x10 x11 : Value) (x12 : Nat) (x13 x14 x15 x16 x17 x18 x19 x20 : Value) (x21 x22 : Int32) (x23 x24 : Value) (x25 : Nat) (x26 : ClassId) (x27 : NI) (x28 : Nat) (x29 : ClassId) (x30 : NI) (x31 x32 : Nat) (x33 : Value) (x34 : Nat) (x35 : ClassId) (x36 : NI) (x37 : Nat) (x38 : ClassId) (x39 : NI) : va_W := [(x0, .inr (3, [.ref x1, .ref x2, .ref x3, x4, .int x5, .int x6, .ref x7, .int x8, .int x9, x10, x11])), (x12, .inr (2, [x13, x14, x15, x16, x17, x18, x19, x20, .int x21, .int x22, x23, x24])), (x25, .inl (x26, 8, .inl x27)), (x28, .inl (x29, 6, .inl x30)), (x31, .inr (0, [.ref x32, x33])), (x34, .inl (x35, 8, .inl x36)), (x37, .inl (x38, 6, .inl x39))]
def qa6V (x0 x1 x2 x3 : Nat) (x4 : Value) (x5 x6 : Int32) (x7 : Nat) (x8 x9 : Int32) (x10 x11 : Value) (x12 : Nat) (x13 : ClassId) (x14 : NI) (x15 : Nat) (x16 : ClassId) (x17 : NI) (x18 x19 : Nat) (x20 : Value) (x21 : Nat) (x22 : ClassId) (x23 : NI) : va_W := [(x0, .inr (3, [.ref x1, .ref x2, .ref x3, x4, .int x5, .int x6, .ref x7, .int x8, .int x9, x10, x11])), (x12, .inl (x13, 8, .inl x14)), (x15, .inl (x16, 6, .inl x17)), (x18, .inr (0, [.ref x19, x20])), (x21, .inl (x22, 8, .inl x23))]
def qa3Z (x0 x1 : Nat) (x2 : Value) (x3 : Nat) (x4 : Value) (x5 : Nat) (x6 x7 x8 x9 x10 x11 x12 x13 : Value) (x14 x15 : Int32) (x16 x17 : Value) (x18 : Nat) (x19 : ClassId) (x20 : NI) : va_W := [(x0, .inr (1, [.ref x1, x2, .ref x3, x4])), (x5, .inr (2, [x6, x7, x8, x9, x10, x11, x12, x13, .int x14, .int x15, x16, x17])), (x18, .inl (x19, 64, .inl x20))]
def qJw (x0 x1 x2 x3 : Nat) (x4 : Value) (x5 x6 : Int32) (x7 : Value) (x8 x9 : Int32) (x10 x11 : Value) (x12 x13 : Nat) (x14 : Value) (x15 : Nat) (x16 : Value) (x17 : Nat) (x18 x19 x20 x21 x22 x23 x24 x25 : Value) (x26 x27 : Int32) (x28 x29 : Value) (x30 : Nat) (x31 : ClassId) (x32 : NI) (x33 : Nat) (x34 : ClassId) (x35 : NI) (x36 : Nat) (x37 : ClassId) (x38 : NI) (x39 x40 : Nat) (x41 : Value) (x42 : Nat) (x43 : ClassId) (x44 : NI) (x45 : Nat) (x46 : ClassId) (x47 : NI) : va_W := [(x0, .inr (3, [.ref x1, .ref x2, .ref x3, x4, .int x5, .int x6, x7, .int x8, .int x9, x10, x11])), (x12, .inr (1, [.ref x13, x14, .ref x15, x16])), (x17, .inr (2, [x18, x19, x20, x21, x22, x23, x24, x25, .int x26, .int x27, x28, x29])), (x30, .inl (x31, 64, .inl x32)), (x33, .inl (x34, 8, .inl x35)), (x36, .inl (x37, 6, .inl x38)), (x39, .inr (0, [.ref x40, x41])), (x42, .inl (x43, 8, .inl x44)), (x45, .inl (x46, 6, .inl x47))]
def qMz (x0 : Nat) (x1 x2 x3 x4 x5 : Value) (x6 : Nat) (x7 x8 : Value) (x9 : Nat) (x10 x11 x12 x13 x14 : Value) (x15 : Nat) (x16 x17 x18 : Value) (x19 : Int32) (x20 x21 x22 x23 : Nat) (x24 : Value) (x25 x26 : Int32) (x27 : Value) (x28 x29 : Int32) (x30 x31 : Value) (x32 x33 : Nat) (x34 : Value) (x35 : Nat) (x36 : Value) (x37 : Nat) (x38 x39 x40 x41 x42 x43 x44 x45 : Value) (x46 x47 : Int32) (x48 x49 : Value) (x50 : Nat) (x51 : ClassId) (x52 : NI) (x53 : Nat) (x54 : ClassId) (x55 : NI) (x56 : Nat) (x57 : ClassId) (x58 : NI) (x59 x60 : Nat) (x61 : Value) (x62 : Nat) (x63 : ClassId) (x64 : NI) (x65 : Nat) (x66 : ClassId) (x67 : NI) : va_W := [(x0, .inr (10, [x1, x2, x3, x4, x5, .ref x6, x7, x8, .ref x9, x10, x11, x12, x13, x14, .ref x15, x16, x17, x18, .int x19])), (x20, .inr (3, [.ref x21, .ref x22, .ref x23, x24, .int x25, .int x26, x27, .int x28, .int x29, x30, x31])), (x32, .inr (1, [.ref x33, x34, .ref x35, x36])), (x37, .inr (2, [x38, x39, x40, x41, x42, x43, x44, x45, .int x46, .int x47, x48, x49])), (x50, .inl (x51, 64, .inl x52)), (x53, .inl (x54, 8, .inl x55)), (x56, .inl (x57, 6, .inl x58)), (x59, .inr (0, [.ref x60, x61])), (x62, .inl (x63, 8, .inl x64)), (x65, .inl (x66, 6, .inl x67))]
def qaRP (x0 : Nat) (x1 x2 x3 x4 x5 : Value) (x6 : Nat) (x7 x8 : Value) (x9 : Nat) (x10 x11 x12 x13 x14 : Value) (x15 : Nat) (x16 x17 x18 : Value) (x19 : Int32) : va_W := [(x0, .inr (10, [x1, x2, x3, x4, x5, .ref x6, x7, x8, .ref x9, x10, x11, x12, x13, x14, .ref x15, x16, x17, x18, .int x19]))]
def qbgI (x0 : Nat) (x1 x2 x3 x4 x5 : Value) (x6 : Nat) (x7 x8 : Value) (x9 : Nat) (x10 x11 x12 x13 x14 : Value) (x15 : Nat) (x16 x17 x18 : Value) (x19 : Int32) (x20 x21 x22 x23 : Nat) (x24 : Value) (x25 x26 : Int32) (x27 : Nat) (x28 x29 : Int32) (x30 x31 : Value) (x32 x33 : Nat) (x34 : Value) (x35 : Nat) (x36 : Value) (x37 : Nat) (x38 x39 x40 x41 x42 x43 x44 x45 : Value) (x46 x47 : Int32) (x48 x49 : Value) (x50 : Nat) (x51 : ClassId) (x52 : NI) (x53 : Nat) (x54 : ClassId) (x55 : NI) (x56 : Nat) (x57 : ClassId) (x58 : NI) (x59 x60 : Nat) (x61 : Value) (x62 : Nat) (x63 : ClassId) (x64 : NI) (x65 : Nat) (x66 : ClassId) (x67 : NI) : va_W := [(x0, .inr (10, [x1, x2, x3, x4, x5, .ref x6, x7, x8, .ref x9, x10, x11, x12, x13, x14, .ref x15, x16, x17, x18, .int x19])), (x20, .inr (3, [.ref x21, .ref x22, .ref x23, x24, .int x25, .int x26, .ref x27, .int x28, .int x29, x30, x31])), (x32, .inr (1, [.ref x33, x34, .ref x35, x36])), (x37, .inr (2, [x38, x39, x40, x41, x42, x43, x44, x45, .int x46, .int x47, x48, x49])), (x50, .inl (x51, 64, .inl x52)), (x53, .inl (x54, 8, .inl x55)), (x56, .inl (x57, 6, .inl x58)), (x59, .inr (0, [.ref x60, x61])), (x62, .inl (x63, 8, .inl x64)), (x65, .inl (x66, 6, .inl x67))]
def qMU (x0 : Nat) (x1 : Value) (x2 : Nat) (x3 x4 x5 : Value) (x6 : Nat) (x7 x8 : Value) (x9 : Nat) (x10 x11 x12 x13 x14 : Value) (x15 : Nat) (x16 x17 x18 : Value) (x19 : Int32) (x20 x21 x22 x23 : Nat) (x24 : Value) (x25 x26 : Int32) (x27 : Value) (x28 x29 : Int32) (x30 x31 : Value) (x32 x33 : Nat) (x34 : Value) (x35 : Nat) (x36 : Value) (x37 : Nat) (x38 x39 x40 x41 x42 x43 x44 x45 : Value) (x46 x47 : Int32) (x48 x49 : Value) (x50 : Nat) (x51 : ClassId) (x52 : NI) (x53 : Nat) (x54 : ClassId) (x55 : NI) (x56 : Nat) (x57 : ClassId) (x58 : NI) (x59 x60 : Nat) (x61 : Value) (x62 : Nat) (x63 : ClassId) (x64 : NI) (x65 : Nat) (x66 : ClassId) (x67 : NI) (x68 : Nat) (x69 : ClassId) (x70 : Nat) (x71 : Nat → Int64) : va_W := [(x0, .inr (10, [x1, .ref x2, x3, x4, x5, .ref x6, x7, x8, .ref x9, x10, x11, x12, x13, x14, .ref x15, x16, x17, x18, .int x19])), (x20, .inr (3, [.ref x21, .ref x22, .ref x23, x24, .int x25, .int x26, x27, .int x28, .int x29, x30, x31])), (x32, .inr (1, [.ref x33, x34, .ref x35, x36])), (x37, .inr (2, [x38, x39, x40, x41, x42, x43, x44, x45, .int x46, .int x47, x48, x49])), (x50, .inl (x51, 64, .inl x52)), (x53, .inl (x54, 8, .inl x55)), (x56, .inl (x57, 6, .inl x58)), (x59, .inr (0, [.ref x60, x61])), (x62, .inl (x63, 8, .inl x64)), (x65, .inl (x66, 6, .inl x67)), (x68, .inl (x69, x70, .inr (.inl x71)))]
def qaXW (x0 : Nat) (x1 : Value) (x2 : Nat) (x3 x4 x5 : Value) (x6 : Nat) (x7 x8 : Value) (x9 : Nat) (x10 x11 x12 x13 x14 : Value) (x15 : Nat) (x16 x17 x18 : Value) (x19 : Int32) (x20 x21 x22 x23 : Nat) (x24 : Value) (x25 x26 : Int32) (x27 : Value) (x28 x29 : Int32) (x30 x31 : Value) (x32 x33 : Nat) (x34 : Value) (x35 : Nat) (x36 : Value) (x37 : Nat) (x38 x39 x40 x41 x42 x43 x44 x45 : Value) (x46 x47 : Int32) (x48 x49 : Value) (x50 : Nat) (x51 : ClassId) (x52 : NI) (x53 : Nat) (x54 : ClassId) (x55 : NI) (x56 : Nat) (x57 : ClassId) (x58 : NI) (x59 x60 : Nat) (x61 : Value) (x62 : Nat) (x63 : ClassId) (x64 : NI) (x65 : Nat) (x66 : ClassId) (x67 : NI) : va_W := [(x0, .inr (10, [x1, .ref x2, x3, x4, x5, .ref x6, x7, x8, .ref x9, x10, x11, x12, x13, x14, .ref x15, x16, x17, x18, .int x19])), (x20, .inr (3, [.ref x21, .ref x22, .ref x23, x24, .int x25, .int x26, x27, .int x28, .int x29, x30, x31])), (x32, .inr (1, [.ref x33, x34, .ref x35, x36])), (x37, .inr (2, [x38, x39, x40, x41, x42, x43, x44, x45, .int x46, .int x47, x48, x49])), (x50, .inl (x51, 64, .inl x52)), (x53, .inl (x54, 8, .inl x55)), (x56, .inl (x57, 6, .inl x58)), (x59, .inr (0, [.ref x60, x61])), (x62, .inl (x63, 8, .inl x64)), (x65, .inl (x66, 6, .inl x67))]
def qzi (x0 : Nat) (x1 : Value) (x2 : Nat) (x3 x4 x5 x6 x7 x8 : Value) (x9 : Nat) (x10 x11 x12 x13 x14 x15 x16 x17 : Value) (x18 x19 : Int32) (x20 x21 x22 : Nat) (x23 x24 x25 x26 x27 x28 : Value) (x29 x30 : Int32) (x31 : Value) (x32 : Int32) (x33 x34 : Nat) (x35 : Value) (x36 : Nat) (x37 : Value) (x38 : Nat) (x39 : ClassId) (x40 : NI) (x41 : Nat) (x42 : ClassId) (x43 : NI) (x44 : Nat) (x45 : ClassId) (x46 : NI) : va_W := [(x0, .inr (10, [x1, .ref x2, x3, x4, x5, x6, x7, x8, .ref x9, x10, x11, x12, x13, x14, x15, x16, x17, .int x18, .int x19])), (x20, .inr (2, [.ref x21, .ref x22, x23, x24, x25, x26, x27, x28, .int x29, .int x30, x31, .int x32])), (x33, .inr (1, [.ref x34, x35, .ref x36, x37])), (x38, .inl (x39, 64, .inl x40)), (x41, .inl (x42, 8, .inl x43)), (x44, .inl (x45, 8, .inl x46))]
def qaYn (x0 : Nat) (x1 : Value) (x2 : Nat) (x3 x4 x5 x6 x7 x8 : Value) (x9 : Nat) (x10 x11 x12 x13 x14 x15 x16 x17 : Value) (x18 x19 : Int32) (x20 x21 x22 : Nat) (x23 x24 x25 x26 x27 x28 : Value) (x29 x30 : Int32) (x31 : Value) (x32 : Int32) : va_W := [(x0, .inr (10, [x1, .ref x2, x3, x4, x5, x6, x7, x8, .ref x9, x10, x11, x12, x13, x14, x15, x16, x17, .int x18, .int x19])), (x20, .inr (2, [.ref x21, .ref x22, x23, x24, x25, x26, x27, x28, .int x29, .int x30, x31, .int x32]))]
def qa5D (x0 x1 : Nat) (x2 : Value) (x3 : Nat) (x4 : Value) (x5 : Nat) (x6 : ClassId) (x7 : NI) (x8 : Nat) (x9 : ClassId) (x10 : NI) (x11 : Nat) (x12 : ClassId) (x13 : NI) : va_W := [(x0, .inr (1, [.ref x1, x2, .ref x3, x4])), (x5, .inl (x6, 64, .inl x7)), (x8, .inl (x9, 8, .inl x10)), (x11, .inl (x12, 8, .inl x13))]
def qaiu (x0 : Nat) (x1 : Value) (x2 : Nat) (x3 x4 x5 x6 x7 x8 : Value) (x9 : Nat) (x10 x11 x12 x13 x14 x15 x16 x17 : Value) (x18 x19 : Int32) : va_W := [(x0, .inr (10, [x1, .ref x2, x3, x4, x5, x6, x7, x8, .ref x9, x10, x11, x12, x13, x14, x15, x16, x17, .int x18, .int x19]))]
def qa72 (x0 x1 x2 : Nat) (x3 x4 x5 x6 x7 x8 : Value) (x9 x10 : Int32) (x11 : Value) (x12 : Int32) (x13 x14 : Nat) (x15 : Value) (x16 : Nat) (x17 : Value) (x18 : Nat) (x19 : ClassId) (x20 : NI) (x21 : Nat) (x22 : ClassId) (x23 : NI) (x24 : Nat) (x25 : ClassId) (x26 : NI) : va_W := [(x0, .inr (2, [.ref x1, .ref x2, x3, x4, x5, x6, x7, x8, .int x9, .int x10, x11, .int x12])), (x13, .inr (1, [.ref x14, x15, .ref x16, x17])), (x18, .inl (x19, 64, .inl x20)), (x21, .inl (x22, 8, .inl x23)), (x24, .inl (x25, 8, .inl x26))]
def qa3y (x0 x1 : Nat) (x2 : Value) (x3 : Nat) (x4 : Value) (x5 x6 x7 : Nat) (x8 x9 x10 x11 x12 x13 : Value) (x14 x15 : Int32) (x16 : Value) (x17 : Int32) (x18 : Nat) (x19 : ClassId) (x20 : NI) : va_W := [(x0, .inr (1, [.ref x1, x2, .ref x3, x4])), (x5, .inr (2, [.ref x6, .ref x7, x8, x9, x10, x11, x12, x13, .int x14, .int x15, x16, .int x17])), (x18, .inl (x19, 64, .inl x20))]
def qa9a (x0 x1 x2 : Nat) (x3 x4 x5 x6 x7 x8 : Value) (x9 x10 : Int32) (x11 : Value) (x12 : Int32) : va_W := [(x0, .inr (2, [.ref x1, .ref x2, x3, x4, x5, x6, x7, x8, .int x9, .int x10, x11, .int x12]))]
def qMD (x0 : Nat) (x1 : Value) (x2 : Nat) (x3 x4 x5 x6 x7 x8 : Value) (x9 : Nat) (x10 x11 x12 x13 x14 x15 x16 x17 : Value) (x18 x19 : Int32) (x20 x21 x22 : Nat) (x23 x24 x25 x26 x27 x28 : Value) (x29 x30 : Int32) (x31 : Value) (x32 : Int32) (x33 x34 : Nat) (x35 : Value) (x36 : Nat) (x37 : Value) (x38 : Nat) (x39 : ClassId) (x40 : NI) (x41 : Nat) (x42 : ClassId) (x43 : NI) (x44 : Nat) (x45 : ClassId) (x46 : NI) (x47 : Nat) (x48 : ClassId) (x49 : Nat) (x50 : Nat → Int64) : va_W := [(x0, .inr (10, [x1, .ref x2, x3, x4, x5, x6, x7, x8, .ref x9, x10, x11, x12, x13, x14, x15, x16, x17, .int x18, .int x19])), (x20, .inr (2, [.ref x21, .ref x22, x23, x24, x25, x26, x27, x28, .int x29, .int x30, x31, .int x32])), (x33, .inr (1, [.ref x34, x35, .ref x36, x37])), (x38, .inl (x39, 64, .inl x40)), (x41, .inl (x42, 8, .inl x43)), (x44, .inl (x45, 8, .inl x46)), (x47, .inl (x48, x49, .inr (.inl x50)))]
def qzb (x0 : Nat) (x1 : Value) (x2 : Nat) (x3 x4 x5 x6 x7 x8 x9 x10 x11 x12 x13 x14 x15 x16 x17 : Value) (x18 x19 : Int32) (x20 : Nat) (x21 x22 : Value) (x23 x24 : Nat) (x25 x26 x27 x28 x29 x30 : Value) (x31 : Int32) (x32 : Value) (x33 : Nat) (x34 : ClassId) (x35 : NI) (x36 : Nat) (x37 : ClassId) (x38 : NI) : va_W := [(x0, .inr (10, [x1, .ref x2, x3, x4, x5, x6, x7, x8, x9, x10, x11, x12, x13, x14, x15, x16, x17, .int x18, .int x19])), (x20, .inr (2, [x21, x22, .ref x23, .ref x24, x25, x26, x27, x28, x29, x30, .int x31, x32])), (x33, .inl (x34, 4, .inl x35)), (x36, .inl (x37, 4, .inl x38))]
def qaZw (x0 : Nat) (x1 : Value) (x2 : Nat) (x3 x4 x5 x6 x7 x8 x9 x10 x11 x12 x13 x14 x15 x16 x17 : Value) (x18 x19 : Int32) : va_W := [(x0, .inr (10, [x1, .ref x2, x3, x4, x5, x6, x7, x8, x9, x10, x11, x12, x13, x14, x15, x16, x17, .int x18, .int x19]))]
def qa4X (x0 : Nat) (x1 x2 : Value) (x3 x4 : Nat) (x5 x6 x7 x8 x9 x10 : Value) (x11 : Int32) (x12 : Value) (x13 : Nat) (x14 : ClassId) (x15 : NI) (x16 : Nat) (x17 : ClassId) (x18 : NI) : va_W := [(x0, .inr (2, [x1, x2, .ref x3, .ref x4, x5, x6, x7, x8, x9, x10, .int x11, x12])), (x13, .inl (x14, 4, .inl x15)), (x16, .inl (x17, 4, .inl x18))]
def qMI (x0 : Nat) (x1 : Value) (x2 : Nat) (x3 x4 x5 x6 x7 x8 x9 x10 x11 x12 x13 x14 x15 x16 x17 : Value) (x18 x19 : Int32) (x20 : Nat) (x21 x22 : Value) (x23 x24 : Nat) (x25 x26 x27 x28 x29 x30 : Value) (x31 : Int32) (x32 : Value) (x33 : Nat) (x34 : ClassId) (x35 : NI) (x36 : Nat) (x37 : ClassId) (x38 : NI) (x39 : Nat) (x40 : ClassId) (x41 : Nat) (x42 : Nat → Int64) : va_W := [(x0, .inr (10, [x1, .ref x2, x3, x4, x5, x6, x7, x8, x9, x10, x11, x12, x13, x14, x15, x16, x17, .int x18, .int x19])), (x20, .inr (2, [x21, x22, .ref x23, .ref x24, x25, x26, x27, x28, x29, x30, .int x31, x32])), (x33, .inl (x34, 4, .inl x35)), (x36, .inl (x37, 4, .inl x38)), (x39, .inl (x40, x41, .inr (.inl x42)))]
def qv9 (x0 : Nat) (x1 : Value) (x2 : Nat) (x3 x4 x5 x6 x7 x8 : Value) (x9 : Nat) (x10 x11 x12 x13 x14 x15 x16 x17 : Value) (x18 x19 : Int32) (x20 : Nat) (x21 x22 x23 x24 x25 : Value) (x26 : Nat) (x27 x28 x29 : Value) (x30 : Int32) (x31 x32 : Value) (x33 x34 : Nat) (x35 : Value) (x36 x37 x38 : Nat) (x39 : ClassId) (x40 : NI) (x41 x42 x43 x44 x45 : Nat) (x46 : Int32) (x47 : Nat) (x48 : ClassId) (x49 : NI) (x50 : Nat) (x51 : ClassId) (x52 : NI) (x53 : Nat) (x54 : ClassId) (x55 : NI) (x56 : Nat) (x57 : ClassId) (x58 : NI) (x59 : Nat) (x60 : ClassId) (x61 : NI) : va_W := [(x0, .inr (10, [x1, .ref x2, x3, x4, x5, x6, x7, x8, .ref x9, x10, x11, x12, x13, x14, x15, x16, x17, .int x18, .int x19])), (x20, .inr (2, [x21, x22, x23, x24, x25, .ref x26, x27, x28, x29, .int x30, x31, x32])), (x33, .inr (1, [.ref x34, x35, .ref x36, .ref x37])), (x38, .inl (x39, 64, .inl x40)), (x41, .inr (4, [.ref x42, .ref x43, .ref x44, .ref x45, .int x46])), (x47, .inl (x48, 8, .inl x49)), (x50, .inl (x51, 150, .inl x52)), (x53, .inl (x54, 150, .inl x55)), (x56, .inl (x57, 150, .inl x58)), (x59, .inl (x60, 6, .inl x61))]
def qaYk (x0 : Nat) (x1 : Value) (x2 : Nat) (x3 x4 x5 x6 x7 x8 : Value) (x9 : Nat) (x10 x11 x12 x13 x14 x15 x16 x17 : Value) (x18 x19 : Int32) (x20 : Nat) (x21 x22 x23 x24 x25 : Value) (x26 : Nat) (x27 x28 x29 : Value) (x30 : Int32) (x31 x32 : Value) : va_W := [(x0, .inr (10, [x1, .ref x2, x3, x4, x5, x6, x7, x8, .ref x9, x10, x11, x12, x13, x14, x15, x16, x17, .int x18, .int x19])), (x20, .inr (2, [x21, x22, x23, x24, x25, .ref x26, x27, x28, x29, .int x30, x31, x32]))]
def qa40 (x0 x1 : Nat) (x2 : Value) (x3 x4 x5 : Nat) (x6 : ClassId) (x7 : NI) (x8 x9 x10 x11 x12 : Nat) (x13 : Int32) (x14 : Nat) (x15 : ClassId) (x16 : NI) (x17 : Nat) (x18 : ClassId) (x19 : NI) (x20 : Nat) (x21 : ClassId) (x22 : NI) (x23 : Nat) (x24 : ClassId) (x25 : NI) (x26 : Nat) (x27 : ClassId) (x28 : NI) : va_W := [(x0, .inr (1, [.ref x1, x2, .ref x3, .ref x4])), (x5, .inl (x6, 64, .inl x7)), (x8, .inr (4, [.ref x9, .ref x10, .ref x11, .ref x12, .int x13])), (x14, .inl (x15, 8, .inl x16)), (x17, .inl (x18, 150, .inl x19)), (x20, .inl (x21, 150, .inl x22)), (x23, .inl (x24, 150, .inl x25)), (x26, .inl (x27, 6, .inl x28))]
def qa23 (x0 : Nat) (x1 x2 x3 x4 x5 : Value) (x6 : Nat) (x7 x8 x9 : Value) (x10 : Int32) (x11 x12 : Value) (x13 x14 : Nat) (x15 : Value) (x16 x17 x18 : Nat) (x19 : ClassId) (x20 : NI) (x21 x22 x23 x24 x25 : Nat) (x26 : Int32) (x27 : Nat) (x28 : ClassId) (x29 : NI) (x30 : Nat) (x31 : ClassId) (x32 : NI) (x33 : Nat) (x34 : ClassId) (x35 : NI) (x36 : Nat) (x37 : ClassId) (x38 : NI) (x39 : Nat) (x40 : ClassId) (x41 : NI) : va_W := [(x0, .inr (2, [x1, x2, x3, x4, x5, .ref x6, x7, x8, x9, .int x10, x11, x12])), (x13, .inr (1, [.ref x14, x15, .ref x16, .ref x17])), (x18, .inl (x19, 64, .inl x20)), (x21, .inr (4, [.ref x22, .ref x23, .ref x24, .ref x25, .int x26])), (x27, .inl (x28, 8, .inl x29)), (x30, .inl (x31, 150, .inl x32)), (x33, .inl (x34, 150, .inl x35)), (x36, .inl (x37, 150, .inl x38)), (x39, .inl (x40, 6, .inl x41))]
def qDj (x0 x1 : Nat) (x2 : Value) (x3 x4 x5 : Nat) (x6 : ClassId) (x7 : NI) : va_W := [(x0, .inr (1, [.ref x1, x2, .ref x3, .ref x4])), (x5, .inl (x6, 64, .inl x7))]
def qajc (x0 : Nat) (x1 : Value) (x2 : Nat) (x3 x4 x5 x6 x7 x8 : Value) (x9 : Nat) (x10 x11 x12 x13 x14 x15 x16 x17 : Value) (x18 x19 : Int32) (x20 : Nat) (x21 x22 x23 x24 x25 : Value) (x26 : Nat) (x27 x28 x29 : Value) (x30 : Int32) (x31 x32 : Value) (x33 x34 x35 x36 x37 : Nat) (x38 : Int32) (x39 : Nat) (x40 : ClassId) (x41 : NI) (x42 : Nat) (x43 : ClassId) (x44 : NI) (x45 : Nat) (x46 : ClassId) (x47 : NI) (x48 : Nat) (x49 : ClassId) (x50 : NI) (x51 : Nat) (x52 : ClassId) (x53 : NI) : va_W := [(x0, .inr (10, [x1, .ref x2, x3, x4, x5, x6, x7, x8, .ref x9, x10, x11, x12, x13, x14, x15, x16, x17, .int x18, .int x19])), (x20, .inr (2, [x21, x22, x23, x24, x25, .ref x26, x27, x28, x29, .int x30, x31, x32])), (x33, .inr (4, [.ref x34, .ref x35, .ref x36, .ref x37, .int x38])), (x39, .inl (x40, 8, .inl x41)), (x42, .inl (x43, 150, .inl x44)), (x45, .inl (x46, 150, .inl x47)), (x48, .inl (x49, 150, .inl x50)), (x51, .inl (x52, 6, .inl x53))]
def qa37 (x0 x1 : Nat) (x2 : Value) (x3 x4 x5 : Nat) (x6 : ClassId) (x7 : NI) (x8 : Nat) (x9 x10 x11 x12 x13 : Value) (x14 : Nat) (x15 x16 x17 : Value) (x18 : Int32) (x19 x20 : Value) (x21 x22 x23 x24 x25 : Nat) (x26 : Int32) (x27 : Nat) (x28 : ClassId) (x29 : NI) (x30 : Nat) (x31 : ClassId) (x32 : NI) (x33 : Nat) (x34 : ClassId) (x35 : NI) (x36 : Nat) (x37 : ClassId) (x38 : NI) : va_W := [(x0, .inr (1, [.ref x1, x2, .ref x3, .ref x4])), (x5, .inl (x6, 64, .inl x7)), (x8, .inr (2, [x9, x10, x11, x12, x13, .ref x14, x15, x16, x17, .int x18, x19, x20])), (x21, .inr (4, [.ref x22, .ref x23, .ref x24, .ref x25, .int x26])), (x27, .inl (x28, 8, .inl x29)), (x30, .inl (x31, 150, .inl x32)), (x33, .inl (x34, 150, .inl x35)), (x36, .inl (x37, 150, .inl x38))]
def qaOz (x0 x1 : Nat) (x2 : Value) (x3 x4 x5 : Nat) (x6 x7 x8 x9 x10 : Value) (x11 : Nat) (x12 x13 x14 : Value) (x15 : Int32) (x16 x17 : Value) (x18 : Nat) (x19 : ClassId) (x20 : NI) : va_W := [(x0, .inr (1, [.ref x1, x2, .ref x3, .ref x4])), (x5, .inr (2, [x6, x7, x8, x9, x10, .ref x11, x12, x13, x14, .int x15, x16, x17])), (x18, .inl (x19, 64, .inl x20))]
def qa5I (x0 : Nat) (x1 : Value) (x2 : Nat) (x3 x4 x5 x6 x7 x8 : Value) (x9 : Nat) (x10 x11 x12 x13 x14 x15 x16 x17 : Value) (x18 x19 : Int32) (x20 x21 x22 x23 x24 : Nat) (x25 : Int32) (x26 : Nat) (x27 : ClassId) (x28 : NI) (x29 : Nat) (x30 : ClassId) (x31 : NI) (x32 : Nat) (x33 : ClassId) (x34 : NI) (x35 : Nat) (x36 : ClassId) (x37 : NI) (x38 : Nat) (x39 : ClassId) (x40 : NI) : va_W := [(x0, .inr (10, [x1, .ref x2, x3, x4, x5, x6, x7, x8, .ref x9, x10, x11, x12, x13, x14, x15, x16, x17, .int x18, .int x19])), (x20, .inr (4, [.ref x21, .ref x22, .ref x23, .ref x24, .int x25])), (x26, .inl (x27, 8, .inl x28)), (x29, .inl (x30, 150, .inl x31)), (x32, .inl (x33, 150, .inl x34)), (x35, .inl (x36, 150, .inl x37)), (x38, .inl (x39, 6, .inl x40))]
def qMp (x0 : Nat) (x1 : Value) (x2 : Nat) (x3 : Value) (x4 : Nat) (x5 x6 x7 x8 : Value) (x9 : Nat) (x10 x11 x12 x13 x14 x15 x16 x17 : Value) (x18 x19 : Int32) (x20 : Nat) (x21 x22 x23 x24 x25 : Value) (x26 : Nat) (x27 x28 x29 : Value) (x30 : Int32) (x31 x32 : Value) (x33 x34 : Nat) (x35 : Value) (x36 x37 x38 : Nat) (x39 : ClassId) (x40 : NI) (x41 x42 x43 x44 x45 : Nat) (x46 : Int32) (x47 : Nat) (x48 : ClassId) (x49 : NI) (x50 : Nat) (x51 : ClassId) (x52 : NI) (x53 : Nat) (x54 : ClassId) (x55 : NI) (x56 : Nat) (x57 : ClassId) (x58 : NI) (x59 : Nat) (x60 : ClassId) (x61 : NI) (x62 : Nat) (x63 : ClassId) (x64 : Nat) (x65 : Nat → Int64) : va_W := [(x0, .inr (10, [x1, .ref x2, x3, .ref x4, x5, x6, x7, x8, .ref x9, x10, x11, x12, x13, x14, x15, x16, x17, .int x18, .int x19])), (x20, .inr (2, [x21, x22, x23, x24, x25, .ref x26, x27, x28, x29, .int x30, x31, x32])), (x33, .inr (1, [.ref x34, x35, .ref x36, .ref x37])), (x38, .inl (x39, 64, .inl x40)), (x41, .inr (4, [.ref x42, .ref x43, .ref x44, .ref x45, .int x46])), (x47, .inl (x48, 8, .inl x49)), (x50, .inl (x51, 150, .inl x52)), (x53, .inl (x54, 150, .inl x55)), (x56, .inl (x57, 150, .inl x58)), (x59, .inl (x60, 6, .inl x61)), (x62, .inl (x63, x64, .inr (.inl x65)))]
def qaYh (x0 : Nat) (x1 : Value) (x2 : Nat) (x3 : Value) (x4 : Nat) (x5 x6 x7 x8 : Value) (x9 : Nat) (x10 x11 x12 x13 x14 x15 x16 x17 : Value) (x18 x19 : Int32) (x20 : Nat) (x21 x22 x23 x24 x25 : Value) (x26 : Nat) (x27 x28 x29 : Value) (x30 : Int32) (x31 x32 : Value) (x33 x34 : Nat) (x35 : Value) (x36 x37 x38 : Nat) (x39 : ClassId) (x40 : NI) (x41 x42 x43 x44 x45 : Nat) (x46 : Int32) (x47 : Nat) (x48 : ClassId) (x49 : NI) (x50 : Nat) (x51 : ClassId) (x52 : NI) (x53 : Nat) (x54 : ClassId) (x55 : NI) (x56 : Nat) (x57 : ClassId) (x58 : NI) (x59 : Nat) (x60 : ClassId) (x61 : NI) : va_W := [(x0, .inr (10, [x1, .ref x2, x3, .ref x4, x5, x6, x7, x8, .ref x9, x10, x11, x12, x13, x14, x15, x16, x17, .int x18, .int x19])), (x20, .inr (2, [x21, x22, x23, x24, x25, .ref x26, x27, x28, x29, .int x30, x31, x32])), (x33, .inr (1, [.ref x34, x35, .ref x36, .ref x37])), (x38, .inl (x39, 64, .inl x40)), (x41, .inr (4, [.ref x42, .ref x43, .ref x44, .ref x45, .int x46])), (x47, .inl (x48, 8, .inl x49)), (x50, .inl (x51, 150, .inl x52)), (x53, .inl (x54, 150, .inl x55)), (x56, .inl (x57, 150, .inl x58)), (x59, .inl (x60, 6, .inl x61))]
def qAU (x0 : Nat) (x1 : Value) (x2 : Nat) (x3 x4 x5 x6 x7 x8 : Value) (x9 : Nat) (x10 x11 x12 x13 x14 x15 x16 x17 : Value) (x18 : Int32) (x19 : Value) (x20 x21 x22 : Nat) (x23 x24 x25 x26 x27 x28 : Value) (x29 x30 : Int32) (x31 x32 : Value) (x33 x34 : Nat) (x35 : Value) (x36 x37 x38 : Nat) (x39 : ClassId) (x40 : NI) (x41 x42 x43 x44 x45 : Nat) (x46 : Int32) (x47 : Nat) (x48 : ClassId) (x49 : NI) (x50 : Nat) (x51 : ClassId) (x52 : NI) (x53 : Nat) (x54 : ClassId) (x55 : NI) (x56 : Nat) (x57 : ClassId) (x58 : NI) (x59 : Nat) (x60 : ClassId) (x61 : NI) (x62 : Nat) (x63 : ClassId) (x64 : NI) : va_W := [(x0, .inr (10, [x1, .ref x2, x3, x4, x5, x6, x7, x8, .ref x9, x10, x11, x12, x13, x14, x15, x16, x17, .int x18, x19])), (x20, .inr (2, [.ref x21, .ref x22, x23, x24, x25, x26, x27, x28, .int x29, .int x30, x31, x32])), (x33, .inr (1, [.ref x34, x35, .ref x36, .ref x37])), (x38, .inl (x39, 64, .inl x40)), (x41, .inr (4, [.ref x42, .ref x43, .ref x44, .ref x45, .int x46])), (x47, .inl (x48, 8, .inl x49)), (x50, .inl (x51, 150, .inl x52)), (x53, .inl (x54, 150, .inl x55)), (x56, .inl (x57, 150, .inl x58)), (x59, .inl (x60, 8, .inl x61)), (x62, .inl (x63, 8, .inl x64))]
def qam7 (x0 : Nat) (x1 : Value) (x2 : Nat) (x3 x4 x5 x6 x7 x8 : Value) (x9 : Nat) (x10 x11 x12 x13 x14 x15 x16 x17 : Value) (x18 : Int32) (x19 : Value) (x20 x21 x22 : Nat) (x23 x24 x25 x26 x27 x28 : Value) (x29 x30 : Int32) (x31 x32 : Value) : va_W := [(x0, .inr (10, [x1, .ref x2, x3, x4, x5, x6, x7, x8, .ref x9, x10, x11, x12, x13, x14, x15, x16, x17, .int x18, x19])), (x20, .inr (2, [.ref x21, .ref x22, x23, x24, x25, x26, x27, x28, .int x29, .int x30, x31, x32]))]
def qaPv (x0 x1 : Nat) (x2 : Value) (x3 x4 x5 : Nat) (x6 : ClassId) (x7 : NI) (x8 x9 x10 x11 x12 : Nat) (x13 : Int32) (x14 : Nat) (x15 : ClassId) (x16 : NI) (x17 : Nat) (x18 : ClassId) (x19 : NI) (x20 : Nat) (x21 : ClassId) (x22 : NI) (x23 : Nat) (x24 : ClassId) (x25 : NI) (x26 : Nat) (x27 : ClassId) (x28 : NI) (x29 : Nat) (x30 : ClassId) (x31 : NI) : va_W := [(x0, .inr (1, [.ref x1, x2, .ref x3, .ref x4])), (x5, .inl (x6, 64, .inl x7)), (x8, .inr (4, [.ref x9, .ref x10, .ref x11, .ref x12, .int x13])), (x14, .inl (x15, 8, .inl x16)), (x17, .inl (x18, 150, .inl x19)), (x20, .inl (x21, 150, .inl x22)), (x23, .inl (x24, 150, .inl x25)), (x26, .inl (x27, 8, .inl x28)), (x29, .inl (x30, 8, .inl x31))]
def qa6g (x0 : Nat) (x1 : Value) (x2 : Nat) (x3 x4 x5 x6 x7 x8 : Value) (x9 : Nat) (x10 x11 x12 x13 x14 x15 x16 x17 : Value) (x18 : Int32) (x19 : Value) (x20 x21 x22 : Nat) (x23 x24 x25 x26 x27 x28 : Value) (x29 x30 : Int32) (x31 x32 : Value) (x33 x34 x35 x36 x37 : Nat) (x38 : Int32) (x39 : Nat) (x40 : ClassId) (x41 : NI) (x42 : Nat) (x43 : ClassId) (x44 : NI) (x45 : Nat) (x46 : ClassId) (x47 : NI) (x48 : Nat) (x49 : ClassId) (x50 : NI) (x51 : Nat) (x52 : ClassId) (x53 : NI) (x54 : Nat) (x55 : ClassId) (x56 : NI) : va_W := [(x0, .inr (10, [x1, .ref x2, x3, x4, x5, x6, x7, x8, .ref x9, x10, x11, x12, x13, x14, x15, x16, x17, .int x18, x19])), (x20, .inr (2, [.ref x21, .ref x22, x23, x24, x25, x26, x27, x28, .int x29, .int x30, x31, x32])), (x33, .inr (4, [.ref x34, .ref x35, .ref x36, .ref x37, .int x38])), (x39, .inl (x40, 8, .inl x41)), (x42, .inl (x43, 150, .inl x44)), (x45, .inl (x46, 150, .inl x47)), (x48, .inl (x49, 150, .inl x50)), (x51, .inl (x52, 8, .inl x53)), (x54, .inl (x55, 8, .inl x56))]
def qa4K (x0 x1 : Nat) (x2 : Value) (x3 x4 x5 : Nat) (x6 : ClassId) (x7 : NI) (x8 x9 x10 : Nat) (x11 x12 x13 x14 x15 x16 : Value) (x17 x18 : Int32) (x19 x20 : Value) (x21 x22 x23 x24 x25 : Nat) (x26 : Int32) (x27 : Nat) (x28 : ClassId) (x29 : NI) (x30 : Nat) (x31 : ClassId) (x32 : NI) (x33 : Nat) (x34 : ClassId) (x35 : NI) (x36 : Nat) (x37 : ClassId) (x38 : NI) : va_W := [(x0, .inr (1, [.ref x1, x2, .ref x3, .ref x4])), (x5, .inl (x6, 64, .inl x7)), (x8, .inr (2, [.ref x9, .ref x10, x11, x12, x13, x14, x15, x16, .int x17, .int x18, x19, x20])), (x21, .inr (4, [.ref x22, .ref x23, .ref x24, .ref x25, .int x26])), (x27, .inl (x28, 8, .inl x29)), (x30, .inl (x31, 150, .inl x32)), (x33, .inl (x34, 150, .inl x35)), (x36, .inl (x37, 150, .inl x38))]
def qa8b (x0 x1 x2 : Nat) (x3 x4 x5 x6 x7 x8 : Value) (x9 x10 : Int32) (x11 x12 : Value) (x13 : Nat) (x14 : ClassId) (x15 : NI) (x16 : Nat) (x17 : ClassId) (x18 : NI) : va_W := [(x0, .inr (2, [.ref x1, .ref x2, x3, x4, x5, x6, x7, x8, .int x9, .int x10, x11, x12])), (x13, .inl (x14, 8, .inl x15)), (x16, .inl (x17, 8, .inl x18))]
def qNh (x0 : Nat) (x1 : Value) (x2 : Nat) (x3 : Value) (x4 : Nat) (x5 x6 x7 x8 : Value) (x9 : Nat) (x10 x11 x12 x13 x14 x15 x16 x17 : Value) (x18 : Int32) (x19 : Value) (x20 x21 x22 : Nat) (x23 x24 x25 x26 x27 x28 : Value) (x29 x30 : Int32) (x31 x32 : Value) (x33 x34 : Nat) (x35 : Value) (x36 x37 x38 : Nat) (x39 : ClassId) (x40 : NI) (x41 x42 x43 x44 x45 : Nat) (x46 : Int32) (x47 : Nat) (x48 : ClassId) (x49 : NI) (x50 : Nat) (x51 : ClassId) (x52 : NI) (x53 : Nat) (x54 : ClassId) (x55 : NI) (x56 : Nat) (x57 : ClassId) (x58 : NI) (x59 : Nat) (x60 : ClassId) (x61 : NI) (x62 : Nat) (x63 : ClassId) (x64 : NI) (x65 : Nat) (x66 : ClassId) (x67 : Nat) (x68 : Nat → Int64) : va_W := [(x0, .inr (10, [x1, .ref x2, x3, .ref x4, x5, x6, x7, x8, .ref x9, x10, x11, x12, x13, x14, x15, x16, x17, .int x18, x19])), (x20, .inr (2, [.ref x21, .ref x22, x23, x24, x25, x26, x27, x28, .int x29, .int x30, x31, x32])), (x33, .inr (1, [.ref x34, x35, .ref x36, .ref x37])), (x38, .inl (x39, 64, .inl x40)), (x41, .inr (4, [.ref x42, .ref x43, .ref x44, .ref x45, .int x46])), (x47, .inl (x48, 8, .inl x49)), (x50, .inl (x51, 150, .inl x52)), (x53, .inl (x54, 150, .inl x55)), (x56, .inl (x57, 150, .inl x58)), (x59, .inl (x60, 8, .inl x61)), (x62, .inl (x63, 8, .inl x64)), (x65, .inl (x66, x67, .inr (.inl x68)))]
def qaYu (x0 : Nat) (x1 : Value) (x2 : Nat) (x3 : Value) (x4 : Nat) (x5 x6 x7 x8 : Value) (x9 : Nat) (x10 x11 x12 x13 x14 x15 x16 x17 : Value) (x18 : Int32) (x19 : Value) (x20 x21 x22 : Nat) (x23 x24 x25 x26 x27 x28 : Value) (x29 x30 : Int32) (x31 x32 : Value) (x33 x34 : Nat) (x35 : Value) (x36 x37 x38 : Nat) (x39 : ClassId) (x40 : NI) (x41 x42 x43 x44 x45 : Nat) (x46 : Int32) (x47 : Nat) (x48 : ClassId) (x49 : NI) (x50 : Nat) (x51 : ClassId) (x52 : NI) (x53 : Nat) (x54 : ClassId) (x55 : NI) (x56 : Nat) (x57 : ClassId) (x58 : NI) (x59 : Nat) (x60 : ClassId) (x61 : NI) (x62 : Nat) (x63 : ClassId) (x64 : NI) : va_W := [(x0, .inr (10, [x1, .ref x2, x3, .ref x4, x5, x6, x7, x8, .ref x9, x10, x11, x12, x13, x14, x15, x16, x17, .int x18, x19])), (x20, .inr (2, [.ref x21, .ref x22, x23, x24, x25, x26, x27, x28, .int x29, .int x30, x31, x32])), (x33, .inr (1, [.ref x34, x35, .ref x36, .ref x37])), (x38, .inl (x39, 64, .inl x40)), (x41, .inr (4, [.ref x42, .ref x43, .ref x44, .ref x45, .int x46])), (x47, .inl (x48, 8, .inl x49)), (x50, .inl (x51, 150, .inl x52)), (x53, .inl (x54, 150, .inl x55)), (x56, .inl (x57, 150, .inl x58)), (x59, .inl (x60, 8, .inl x61)), (x62, .inl (x63, 8, .inl x64))]
def qJF (x0 x1 : Nat) (x2 x3 : Int32) (x4 x5 x6 x7 : Value) (x8 : Nat) (x9 : ClassId) (x10 : NI) : va_W := [(x0, .inr (8, [.ref x1, .int x2, .int x3, x4, x5, x6, x7])), (x8, .inl (x9, 600, .inl x10))]
def qJq (x0 x1 : Nat) (x2 x3 : Int32) (x4 x5 : Value) (x6 x7 : Int32) (x8 : Nat) (x9 : ClassId) (x10 : NI) : va_W := [(x0, .inr (8, [.ref x1, .int x2, .int x3, x4, x5, .int x6, .int x7])), (x8, .inl (x9, 600, .inl x10))]
def qais (x0 : Nat) (x1 x2 x3 x4 : Value) : va_W := [(x0, .inr (1, [x1, x2, x3, x4]))]
def qaZp (x0 : Nat) (x1 x2 x3 : Value) (x4 : Nat) : va_W := [(x0, .inr (1, [x1, x2, x3, .ref x4]))]
def qPf (x0 : Nat) (x1 x2 x3 : Value) (x4 : Nat) (x5 x6 x7 x8 x9 x10 x11 : Value) (x12 : Nat) (x13 : ClassId) (x14 : NI) : va_W := [(x0, .inr (3, [x1, x2, x3, .ref x4, x5, x6, x7, x8, x9, x10, x11])), (x12, .inl (x13, 7, .inl x14))]
def qpE (x0 x1 x2 x3 x4 : Nat) (x5 x6 : Int32) (x7 x8 x9 x10 x11 : Value) (x12 : Nat) (x13 : ClassId) (x14 : NI) (x15 : Nat) (x16 : ClassId) (x17 : NI) (x18 : Nat) (x19 : ClassId) (x20 : NI) (x21 : Nat) (x22 : ClassId) (x23 : NI) : va_W := [(x0, .inr (3, [.ref x1, .ref x2, .ref x3, .ref x4, .int x5, .int x6, x7, x8, x9, x10, x11])), (x12, .inl (x13, 7, .inl x14)), (x15, .inl (x16, 6, .inl x17)), (x18, .inl (x19, 8, .inl x20)), (x21, .inl (x22, 6, .inl x23))]
def qa77 (x0 x1 x2 x3 x4 : Nat) (x5 x6 : Int32) (x7 x8 x9 x10 x11 : Value) (x12 : Nat) (x13 : ClassId) (x14 : NI) (x15 : Nat) (x16 : ClassId) (x17 : NI) : va_W := [(x0, .inr (3, [.ref x1, .ref x2, .ref x3, .ref x4, .int x5, .int x6, x7, x8, x9, x10, x11])), (x12, .inl (x13, 8, .inl x14)), (x15, .inl (x16, 6, .inl x17))]
def qa6s (x0 x1 x2 x3 x4 : Nat) (x5 x6 : Int32) (x7 x8 x9 x10 x11 : Value) (x12 : Nat) (x13 : ClassId) (x14 : NI) : va_W := [(x0, .inr (3, [.ref x1, .ref x2, .ref x3, .ref x4, .int x5, .int x6, x7, x8, x9, x10, x11])), (x12, .inl (x13, 7, .inl x14))]
theorem qaGS : ∀ w ∈ u_ws RX10 TX10 19, w ∈ wsX10_far := uiM qUR qyE (by decide +kernel)
theorem qaJp : (.fieldLink RX10 19 "MarchHares" "ground" "LMarchHares$Down;" : Cond) ∈ wsX10_far := qUR 20 (by decide +kernel)
set_option maxHeartbeats 4000000 in
set_option maxRecDepth 100000 in
theorem qa19 (l : Launch) (dC : Nat → ClassId) (dI : Nat → Nat → Nat) (cyB cyI cyJ cyP : ClassId) (a0 jaR jbs jbt sz : Nat) (jaK ja1 jcp jbc jbV ja3 jbH ja2 jbO jaq jac jbI jbl jbn jba jaa jdD jbo jbp jbk jbj jbe jbq jgP jbi jcd : Value) (jbE : Int32) (jci jcj : NI) (jdu p1 p2 : Int32) {E : String → Int32 → Prop} {Q : Int32 → Int32 → Prop} (hw : qamU jbE jci jcj jdu p1 p2 E Q) : vx_Met l yX10_far wsX10_far ({ frames := 7, cells := 2, slots := 12, locals := 141 }) (va_Pc [.ref a0, .int p1, .int p2] (cPx l (dC, dI) (kT cyB cyI cyJ cyP) (qJe a0 jaK jaR ja1 jcp jbc jbV ja3 jbH ja2 jbO jaq jac jbI jbl jbn jba jaa jdu jdD jaR jbs jbt jbo jbp jbk jbj jbe jbq jbE jgP jbi jcd jbs cyI jci jbt cyI jcj) sz)) (va_Qi (fun (r u : Int32) => Q r u) (cB (dC, dI) (kT cyB cyI cyJ cyP) (va_A (qJe a0 jaK jaR ja1 jcp jbc jbV ja3 jbH ja2 jbO jaq jac jbI jbl jbn jba jaa jdu jdD jaR jbs jbt jbo jbp jbk jbj jbe jbq jbE jgP jbi jcd jbs cyI jci jbt cyI jcj) sz) (fun u : Int32 => ((qJe a0 jaK jaR ja1 jcp jbc jbV ja3 jbH ja2 jbO jaq jac jbI jbl jbn jba jaa u jdD jaR jbs jbt jbo jbp jbk jbj jbe jbq jbE jgP jbi jcd jbs cyI jci jbt cyI jcj) : va_W))) (va_A (qJe a0 jaK jaR ja1 jcp jbc jbV ja3 jbH ja2 jbO jaq jac jbI jbl jbn jba jaa jdu jdD jaR jbs jbt jbo jbp jbk jbj jbe jbq jbE jgP jbi jcd jbs cyI jci jbt cyI jcj) sz)) (vx_X (fun _ => True) (fun (en : String) (u : Int32) (t : State) => E en u ∧ cB (dC, dI) (kT cyB cyI cyJ cyP) (va_A (qJe a0 jaK jaR ja1 jcp jbc jbV ja3 jbH ja2 jbO jaq jac jbI jbl jbn jba jaa jdu jdD jaR jbs jbt jbo jbp jbk jbj jbe jbq jbE jgP jbi jcd jbs cyI jci jbt cyI jcj) sz) (fun u : Int32 => ((qJe a0 jaK jaR ja1 jcp jbc jbV ja3 jbH ja2 jbO jaq jac jbI jbl jbn jba jaa u jdD jaR jbs jbt jbo jbp jbk jbj jbe jbq jbE jgP jbi jcd jbs cyI jci jbt cyI jcj) : va_W)) u t) (va_A (qJe a0 jaK jaR ja1 jcp jbc jbV ja3 jbH ja2 jbO jaq jac jbI jbl jbn jba jaa jdu jdD jaR jbs jbt jbo jbp jbk jbj jbe jbq jbE jgP jbi jcd jbs cyI jci jbt cyI jcj) sz)) 2 12 (va_A (qJe a0 jaK jaR ja1 jcp jbc jbV ja3 jbH ja2 jbO jaq jac jbI jbl jbn jba jaa jdu jdD jaR jbs jbt jbo jbp jbk jbj jbe jbq jbE jgP jbi jcd jbs cyI jci jbt cyI jcj) sz) := by
  refine vx_ofW (cc := cX10_far) (maxL := 3) (ret := (some .int)) (by decide) rfl ?_
  intro p e s m args below meth c s₁ B hml hnt hv
  obtain ⟨rfl, hsz, hP, hK, hD0, hNw, hXl, hXu, hXn, hXt⟩ := hv
  have hx := B.exec
  have hb := B.bytes
  have hr := B.returns
  have hts := atoms_spec (ws := wsX10_far) B.pre
  have hown : s.vm.findClass RX10 = some m.cls := findClass_of_methodNamed B.named
  have hlocks := B.notSynchronized
  subst hsz
  have hD := hD0.self (sz := s.heap.size)
  generalize hAe : va_A (qJe a0 jaK jaR ja1 jcp jbc jbV ja3 jbH ja2 jbO jaq jac jbI jbl jbn jba jaa jdu jdD jaR jbs jbt jbo jbp jbk jbj jbe jbq jbE jgP jbi jcd jbs cyI jci jbt cyI jcj) s.heap.size = A at hD hXu hXn ⊢
  have hA : ∀ q : Nat, s.heap.size ≤ q → A q := fun q h => by rw [← hAe]; exact Or.inr h
  have hS : va_S A s.heap s.heap [] := va_S.rf
  have hP : va_P (dC, dI) vwCl (qJe a0 jaK jaR ja1 jcp jbc jbV ja3 jbH ja2 jbO jaq jac jbI jbl jbn jba jaa jdu jdD jaR jbs jbt jbo jbp jbk jbj jbe jbq jbE jgP jbi jcd jbs cyI jci jbt cyI jcj) s.heap := hP
  have hl := lv_entry ([.ref a0, .int p1, .int p2]) (n := 3) (nbq rfl)
  rw [lg_entry_eq]
  generalize (lg_sl ([.ref a0, .int p1, .int p2]) ++ List.replicate (3 - (lg_sl ([.ref a0, .int p1, .int p2])).length) Slot.unset).toArray = ls at hl ⊢
  have hl : lv_has ls 3 [(0, .ref a0), (1, .int p1), (2, .int p2)] := hl
  have hY : cfY l s A := ⟨hXl, hXu, hXn, hXt⟩
  have hXs : cfX l s c A := ⟨hnt, hY⟩
  have C0 : cfx p s m _ meth c cX10_far (some .int) wsX10_far RX10 3 A (dC, dI) (kT cyB cyI cyJ cyP) ∧ cfX l s c A := ⟨⟨hx, hb, hr, hts, hown, hlocks, hml, hA, hK, hNw⟩, hXs⟩
  clear hAe
  obtain ⟨H, hH⟩ : ∃ H, H = s.heap := ⟨_, rfl⟩
  rw [← hH] at hP ⊢
  have hS : va_S A s.heap H [] := by rw [hH]; exact va_S.rf
  have hS := hS
  refine lv_aload_n hx hb (qaa qsw 0 rfl) rfl (lv_at hl 0 rfl) ?_
  refine lv_iload_n hx hb (qaa qsw 1 rfl) rfl (lv_at hl 1 rfl) ?_
  obtain ⟨hCc, hPc, hDc, hFc⟩ := qac (ws' := (qaLc a0 jaK jaR ja1 jcp jbc jbV ja3 jbH ja2 jbO jaq jac jbI jbl jbn jba jaa jdu jdD jaR jbs jbt jbo jbp jbk jbj jbe jbq jbE jgP jbi jcd)) hP hD hS hA [0, 1] (by decide +kernel) rfl
  refine vx_callv (vx_runV (As := [.int p1]) (rest := []) ⟨hx, hb, hml, hown, hts⟩ (qyK l dC dI cyB cyI cyJ cyP a0 jaR H.size (jaK) (ja1) (jcp) (jbc) (jbV) (ja3) (jbH) (ja2) (jbO) (jaq) (jac) (jbI) (jbl) (jbn) (jba) (jaa) (jdD) (.ref jbs) (.ref jbt) (jbo) (jbp) (jbk) (jbj) (jbe) (jbq) (jgP) (jbi) (jcd) jbE jdu p1 hw) (cwV 1 hts gX10_far_X10_needForm rfl rfl rfl (by decide +kernel) ⟨nbq rfl, nbq rfl⟩) ⟨qau, va_recv (q := (RX10, TX10, 19)) hK hPc (ci := 10) (q0 := 0) rfl rfl, qbk hPc hK hDc hNw hY hS hFc⟩ rfl rfl hl.1 rfl (lv_room (nbq rfl)) (qaa qsw 2 rfl) ⟨nbq rfl, nbq rfl⟩) hS (fun q _ h => hFc q h) hFc (fun q _ h => hFc q h) (fun en ce q9 u t H1 locs ht hvm hpx hB hz1 hk1 hS hc9 hv9 hcl9 => ?_) (fun u t H1 locs ht hvm hw hB hz1 hk1 hS => ?_)
  · obtain ⟨x1, rfl⟩ : ∃ z, z = u := ⟨_, rfl⟩
    obtain ⟨hw, hP1, hK1, hD1⟩ := hB
    rw [ht] at hP1
    obtain ⟨hP, hD⟩ := qad (wr := (qa07 jbs cyI jci jbt cyI jcj)) (w1 := (qaLc a0 jaK jaR ja1 jcp jbc jbV ja3 jbH ja2 jbO jaq jac jbI jbl jbn jba jaa x1 jdD jaR jbs jbt jbo jbp jbk jbj jbe jbq jbE jgP jbi jcd)) (wn := (qJe a0 jaK jaR ja1 jcp jbc jbV ja3 jbH ja2 jbO jaq jac jbI jbl jbn jba jaa x1 jdD jaR jbs jbt jbo jbp jbk jbj jbe jbq jbE jgP jbi jcd jbs cyI jci jbt cyI jcj)) hP hD [0, 1] [2, 3] [2, 3, 0, 1] hCc rfl (by decide +kernel) (by decide +kernel) (by decide +kernel) rfl hk1 hFc hP1 hD1
    generalize H1 = H at hP hS hc9 ⊢
    exact vx_out (fun x hx9 => (hXs.1 x hx9).elim) hlocks hc9 hv9 hcl9 (fun t2 ht2 hal2 => ⟨(x1), trivial, ⟨hw, by rw [ht2]; exact hP, va_K.moved hal2 hK, hD⟩, hS.F ht2⟩) hS.2.2 (nbq rfl) (nbq rfl)
  obtain ⟨x1, rfl⟩ : ∃ z, z = u := ⟨_, rfl⟩
  obtain ⟨hP1, hK1, hD1⟩ := hB
  rw [ht] at hP1
  obtain ⟨hP, hD⟩ := qad (wr := (qa07 jbs cyI jci jbt cyI jcj)) (w1 := (qaLc a0 jaK jaR ja1 jcp jbc jbV ja3 jbH ja2 jbO jaq jac jbI jbl jbn jba jaa x1 jdD jaR jbs jbt jbo jbp jbk jbj jbe jbq jbE jgP jbi jcd)) (wn := (qJe a0 jaK jaR ja1 jcp jbc jbV ja3 jbH ja2 jbO jaq jac jbI jbl jbn jba jaa x1 jdD jaR jbs jbt jbo jbp jbk jbj jbe jbq jbE jgP jbi jcd jbs cyI jci jbt cyI jcj)) hP hD [0, 1] [2, 3] [2, 3, 0, 1] hCc rfl (by decide +kernel) (by decide +kernel) (by decide +kernel) rfl hk1 hFc hP1 hD1
  generalize H1 = H at hP hS ⊢
  refine lv_aload_n hx hb (qaa qsw 3 rfl) rfl (lv_at hl 0 rfl) ?_
  refine lv_iload_n hx hb (qaa qsw 4 rfl) rfl (lv_at hl 2 rfl) ?_
  obtain ⟨hCc, hPc, hDc, hFc⟩ := qac (ws' := (qaLc a0 jaK jaR ja1 jcp jbc jbV ja3 jbH ja2 jbO jaq jac jbI jbl jbn jba jaa x1 jdD jaR jbs jbt jbo jbp jbk jbj jbe jbq jbE jgP jbi jcd)) hP hD hS hA [0, 1] (by decide +kernel) rfl
  refine vx_callv (vx_runV (As := [.int p2]) (rest := []) ⟨hx, hb, hml, hown, hts⟩ (qyK l dC dI cyB cyI cyJ cyP a0 jaR H.size (jaK) (ja1) (jcp) (jbc) (jbV) (ja3) (jbH) (ja2) (jbO) (jaq) (jac) (jbI) (jbl) (jbn) (jba) (jaa) (jdD) (.ref jbs) (.ref jbt) (jbo) (jbp) (jbk) (jbj) (jbe) (jbq) (jgP) (jbi) (jcd) jbE x1 p2 hw) (cwV 1 hts gX10_far_X10_needForm rfl rfl rfl (by decide +kernel) ⟨nbq rfl, nbq rfl⟩) ⟨qau, va_recv (q := (RX10, TX10, 19)) hK hPc (ci := 10) (q0 := 0) rfl rfl, qbk hPc hK hDc hNw hY hS hFc⟩ rfl rfl hl.1 rfl (lv_room (nbq rfl)) (qaa qsw 5 rfl) ⟨nbq rfl, nbq rfl⟩) hS (fun q _ h => hFc q h) hFc (fun q _ h => hFc q h) (fun en ce q9 u t H1 locs ht hvm hpx hB hz1 hk1 hS hc9 hv9 hcl9 => ?_) (fun u t H1 locs ht hvm hw hB hz1 hk1 hS => ?_)
  · obtain ⟨x2, rfl⟩ : ∃ z, z = u := ⟨_, rfl⟩
    obtain ⟨hw, hP1, hK1, hD1⟩ := hB
    rw [ht] at hP1
    obtain ⟨hP, hD⟩ := qad (wr := (qa07 jbs cyI jci jbt cyI jcj)) (w1 := (qaLc a0 jaK jaR ja1 jcp jbc jbV ja3 jbH ja2 jbO jaq jac jbI jbl jbn jba jaa x2 jdD jaR jbs jbt jbo jbp jbk jbj jbe jbq jbE jgP jbi jcd)) (wn := (qJe a0 jaK jaR ja1 jcp jbc jbV ja3 jbH ja2 jbO jaq jac jbI jbl jbn jba jaa x2 jdD jaR jbs jbt jbo jbp jbk jbj jbe jbq jbE jgP jbi jcd jbs cyI jci jbt cyI jcj)) hP hD [0, 1] [2, 3] [2, 3, 0, 1] hCc rfl (by decide +kernel) (by decide +kernel) (by decide +kernel) rfl hk1 hFc hP1 hD1
    generalize H1 = H at hP hS hc9 ⊢
    exact vx_out (fun x hx9 => (hXs.1 x hx9).elim) hlocks hc9 hv9 hcl9 (fun t2 ht2 hal2 => ⟨(x2), trivial, ⟨hw, by rw [ht2]; exact hP, va_K.moved hal2 hK, hD⟩, hS.F ht2⟩) hS.2.2 (nbq rfl) (nbq rfl)
  obtain ⟨x2, rfl⟩ : ∃ z, z = u := ⟨_, rfl⟩
  obtain ⟨hP1, hK1, hD1⟩ := hB
  rw [ht] at hP1
  obtain ⟨hP, hD⟩ := qad (wr := (qa07 jbs cyI jci jbt cyI jcj)) (w1 := (qaLc a0 jaK jaR ja1 jcp jbc jbV ja3 jbH ja2 jbO jaq jac jbI jbl jbn jba jaa x2 jdD jaR jbs jbt jbo jbp jbk jbj jbe jbq jbE jgP jbi jcd)) (wn := (qJe a0 jaK jaR ja1 jcp jbc jbV ja3 jbH ja2 jbO jaq jac jbI jbl jbn jba jaa x2 jdD jaR jbs jbt jbo jbp jbk jbj jbe jbq jbE jgP jbi jcd jbs cyI jci jbt cyI jcj)) hP hD [0, 1] [2, 3] [2, 3, 0, 1] hCc rfl (by decide +kernel) (by decide +kernel) (by decide +kernel) rfl hk1 hFc hP1 hD1
  generalize H1 = H at hP hS ⊢
  refine lv_aload_n hx hb (qaa qsw 6 rfl) rfl (lv_at hl 0 rfl) ?_
  refine va_get (D := (dC, dI)) (ci := 10) (v := .ref jaR) (C := RX10) (T := TX10) (N := 19) hx hb hts qaGS hown hK hP 0 rfl rfl 1 (by decide) (hts _ qaJp) (fun _ h9 => h9) rfl (qaa qsw 7 rfl) ?_
  refine lv_iload_n hx hb (qaa qsw 8 rfl) rfl (lv_at hl 1 rfl) ?_
  refine lv_iload_n hx hb (qaa qsw 9 rfl) rfl (lv_at hl 2 rfl) ?_
  obtain ⟨hCc, hPc, hDc, hFc⟩ := qac (ws' := (qnr jaR jbs jbt jbo jbp jbk jbj jbe jbq jbE jgP jbi jcd jbs cyI jci jbt cyI jcj)) hP hD hS hA [1, 2, 3] (by decide +kernel) rfl
  refine va_calli (va_runV (As := [.int p1, .int p2]) (rest := []) ⟨hx, hb, hml, hown, hts⟩ (qCj l dC dI cyB cyI cyJ cyP jaR jbs jbt H.size (jbo) (jbp) (jbk) (jbj) (jbe) (jbq) (.int jbE) (jgP) (jbi) (jcd) jci jcj p1 p2 hw) (cwV 2 hts gX10_far_X2_apart rfl rfl rfl (by decide +kernel) ⟨nbq rfl, nbq rfl⟩) ⟨qab, va_recv (q := (RX2, TX2, 12)) hK hPc (ci := 2) (q0 := 0) rfl rfl, qae hPc hK hDc hNw⟩ rfl rfl hl.1 rfl (lv_room (nbq rfl)) (qaa qsw 10 rfl) ⟨nbq rfl, nbq rfl⟩) hS (fun q _ h => hFc q h) hFc (fun r3 u t H1 locs ht hvm hw hB hz1 hk1 hS => ?_)
  obtain ⟨hP1, hK1, hD1⟩ := hB
  rw [ht] at hP1
  obtain ⟨hP, hD⟩ := qah (wr := [(a0, .inr (10, [jaK, .ref jaR, ja1, jcp, jbc, jbV, ja3, jbH, ja2, jbO, jaq, jac, jbI, jbl, jbn, jba, jaa, .int x2, jdD]))]) (w1 := (qnr jaR jbs jbt jbo jbp jbk jbj jbe jbq jbE jgP jbi jcd jbs cyI jci jbt cyI jcj)) (wn := (qJe a0 jaK jaR ja1 jcp jbc jbV ja3 jbH ja2 jbO jaq jac jbI jbl jbn jba jaa x2 jdD jaR jbs jbt jbo jbp jbk jbj jbe jbq jbE jgP jbi jcd jbs cyI jci jbt cyI jcj)) hP hD [1, 2, 3] [0] hCc rfl (by decide +kernel) (by decide +kernel) rfl hk1 hFc hP1 hD1
  generalize H1 = H at hP hS ⊢
  exact vx_ret (W.widen (k := 2) (n := 12) (nbq rfl) (nbq rfl) (W.iret (v := r3) hx hb hr (fun t ht hW => ⟨⟨r3, (x2), rfl, hw, by rw [ht]; exact hP, va_K.moved hW.alike hK, hD⟩, hS.F ht⟩) hS.2.2 (qaa qsw 11 rfl)))
theorem qaR6 : (.classLink RL 31 "java/util/NoSuchElementException" : Cond) ∈ wsL_far := qaQx 2639 (by decide +kernel)
theorem qaW1 : (.codeWith yL_far cL_far 5 (some .int) [(0, 10, 13, 31)] : Cond) ∈ wsL_far := qaQx 2838 (by decide +kernel)
set_option maxHeartbeats 4000000 in
set_option maxRecDepth 100000 in
theorem qbb7 (l : Launch) (dC : Nat → ClassId) (dI : Nat → Nat → Nat) (cyB cyI cyJ cyP : ClassId) (a0 a3 jaR jbs jbt sz : Nat) (jaK ja1 jcp jbc jbV ja3 jbH ja2 jbO jaq jac jbI jbl jbn jba jaa jdD jbo jbp jbk jbj jbe jbq jgP jbi jcd : Value) (n3 : Nat) (jbE : Int32) (jci jcj : NI) (jdu : Int32) (f3 : Nat → Int64) (p1 p2 : Int32) {Q : Int32 → Int32 → (Nat → Int64) → Prop} (hw : qa0c n3 jbE jci jcj jdu f3 p1 p2 Q) : Met l yL_far wsL_far ({ frames := 8, cells := 2, slots := 12, locals := 163 }) (va_Pc [.ref a0, .int p1, .int p2, .ref a3] (cPx l (dC, dI) (kT cyB cyI cyJ cyP) (qZE a0 jaK jaR ja1 jcp jbc jbV ja3 jbH ja2 jbO jaq jac jbI jbl jbn jba jaa jdu jdD jaR jbs jbt jbo jbp jbk jbj jbe jbq jbE jgP jbi jcd jbs cyI jci jbt cyI jcj a3 cyJ n3 f3) sz)) (va_Qi (fun (r : Int32) (u : Int32 × (Nat → Int64)) => Q r u.1 u.2) (cB (dC, dI) (kT cyB cyI cyJ cyP) (va_A (qZE a0 jaK jaR ja1 jcp jbc jbV ja3 jbH ja2 jbO jaq jac jbI jbl jbn jba jaa jdu jdD jaR jbs jbt jbo jbp jbk jbj jbe jbq jbE jgP jbi jcd jbs cyI jci jbt cyI jcj a3 cyJ n3 f3) sz) (fun u : Int32 × (Nat → Int64) => ((qZE a0 jaK jaR ja1 jcp jbc jbV ja3 jbH ja2 jbO jaq jac jbI jbl jbn jba jaa u.1 jdD jaR jbs jbt jbo jbp jbk jbj jbe jbq jbE jgP jbi jcd jbs cyI jci jbt cyI jcj a3 cyJ n3 u.2) : va_W))) (va_A (qZE a0 jaK jaR ja1 jcp jbc jbV ja3 jbH ja2 jbO jaq jac jbI jbl jbn jba jaa jdu jdD jaR jbs jbt jbo jbp jbk jbj jbe jbq jbE jgP jbi jcd jbs cyI jci jbt cyI jcj a3 cyJ n3 f3) sz)) 2 12 (va_A (qZE a0 jaK jaR ja1 jcp jbc jbV ja3 jbH ja2 jbO jaq jac jbI jbl jbn jba jaa jdu jdD jaR jbs jbt jbo jbp jbk jbj jbe jbq jbE jgP jbi jcd jbs cyI jci jbt cyI jcj a3 cyJ n3 f3) sz) := by
  refine va_MetW (cc := cL_far) (maxL := 5) (ret := (some .int)) (by decide) rfl ?_
  intro p e s m args below meth c s₁ B hml hv
  obtain ⟨rfl, hsz, hP, hK, hD0, hNw, hXl, hXu, hXn, hXt⟩ := hv
  have hx := B.exec
  have hb := B.bytes
  have hr := B.returns
  have hts := atoms_spec (ws := wsL_far) B.pre
  have hown : s.vm.findClass RL = some m.cls := findClass_of_methodNamed B.named
  have hlocks := B.notSynchronized
  subst hsz
  have hD := hD0.self (sz := s.heap.size)
  generalize hAe : va_A (qZE a0 jaK jaR ja1 jcp jbc jbV ja3 jbH ja2 jbO jaq jac jbI jbl jbn jba jaa jdu jdD jaR jbs jbt jbo jbp jbk jbj jbe jbq jbE jgP jbi jcd jbs cyI jci jbt cyI jcj a3 cyJ n3 f3) s.heap.size = A at hD hXu hXn ⊢
  have hA : ∀ q : Nat, s.heap.size ≤ q → A q := fun q h => by rw [← hAe]; exact Or.inr h
  have hS : va_S A s.heap s.heap [] := va_S.rf
  have hP : va_P (dC, dI) vwCl (qZE a0 jaK jaR ja1 jcp jbc jbV ja3 jbH ja2 jbO jaq jac jbI jbl jbn jba jaa jdu jdD jaR jbs jbt jbo jbp jbk jbj jbe jbq jbE jgP jbi jcd jbs cyI jci jbt cyI jcj a3 cyJ n3 f3) s.heap := hP
  have hl := lv_entry ([.ref a0, .int p1, .int p2, .ref a3]) (n := 5) (nbq rfl)
  rw [lg_entry_eq]
  generalize (lg_sl ([.ref a0, .int p1, .int p2, .ref a3]) ++ List.replicate (5 - (lg_sl ([.ref a0, .int p1, .int p2, .ref a3])).length) Slot.unset).toArray = ls at hl ⊢
  have hl : lv_has ls 5 [(0, .ref a0), (1, .int p1), (2, .int p2), (3, .ref a3)] := hl
  have hY : cfY l s A := ⟨hXl, hXu, hXn, hXt⟩
  have hTb := vx_table (x := yL_far) B (hts _ qaW1)
  clear hAe
  obtain ⟨H, hH⟩ : ∃ H, H = s.heap := ⟨_, rfl⟩
  rw [← hH] at hP ⊢
  have hS : va_S A s.heap H [] := by rw [hH]; exact va_S.rf
  have hS := hS
  refine lv_aload_n hx hb (qaa qum 0 rfl) rfl (lv_at hl 3 rfl) ?_
  refine lv_iconst (v := 0) hx hb (qaa qum 1 rfl) (by decide) ?_
  refine lv_aload_n hx hb (qaa qum 2 rfl) rfl (lv_at hl 0 rfl) ?_
  refine lv_iload_n hx hb (qaa qum 3 rfl) rfl (lv_at hl 1 rfl) ?_
  refine lv_iload_n hx hb (qaa qum 4 rfl) rfl (lv_at hl 2 rfl) ?_
  obtain ⟨hCc, hPc, hDc, hFc⟩ := qac (ws' := (qJe a0 jaK jaR ja1 jcp jbc jbV ja3 jbH ja2 jbO jaq jac jbI jbl jbn jba jaa jdu jdD jaR jbs jbt jbo jbp jbk jbj jbe jbq jbE jgP jbi jcd jbs cyI jci jbt cyI jcj)) hP hD hS hA [0, 1, 2, 3] (by decide +kernel) rfl
  refine vx_calli (vx_runV (As := [.int p1, .int p2]) (rest := [.int 0, .ref a3]) ⟨hx, hb, hml, hown, hts⟩ (qa19 l dC dI cyB cyI cyJ cyP a0 jaR jbs jbt H.size (jaK) (ja1) (jcp) (jbc) (jbV) (ja3) (jbH) (ja2) (jbO) (jaq) (jac) (jbI) (jbl) (jbn) (jba) (jaa) (jdD) (jbo) (jbp) (jbk) (jbj) (jbe) (jbq) (jgP) (jbi) (jcd) jbE jci jcj jdu p1 p2 hw) (cwV 2 hts gL_far_X10_far rfl rfl rfl (by decide +kernel) ⟨nbq rfl, nbq rfl⟩) ⟨qau, va_recv (q := (RX10, TX10, 19)) hK hPc (ci := 10) (q0 := 0) rfl rfl, qbk hPc hK hDc hNw hY hS hFc⟩ rfl rfl hl.1 rfl (lv_room (nbq rfl)) (qaa qum 5 rfl) ⟨nbq rfl, nbq rfl⟩) hS (fun q _ h => hFc q h) hFc (fun q _ h => hFc q h) (fun en ce qx9 u t H1 locs ht hvm hpx hB hz1 hk1 hS hc9 hv9 hcl9 => ?_) (fun r2 u t H1 locs ht hvm hw hB hz1 hk1 hS => ?_)
  · obtain ⟨x1, rfl⟩ : ∃ z, z = u := ⟨_, rfl⟩
    obtain ⟨hw, hP1, hK1, hD1⟩ := hB
    rw [ht] at hP1
    obtain ⟨hP, hD⟩ := qad (wr := [(a3, .inl (cyJ, n3, .inr (.inl f3)))]) (w1 := (qJe a0 jaK jaR ja1 jcp jbc jbV ja3 jbH ja2 jbO jaq jac jbI jbl jbn jba jaa x1 jdD jaR jbs jbt jbo jbp jbk jbj jbe jbq jbE jgP jbi jcd jbs cyI jci jbt cyI jcj)) (wn := (qZE a0 jaK jaR ja1 jcp jbc jbV ja3 jbH ja2 jbO jaq jac jbI jbl jbn jba jaa x1 jdD jaR jbs jbt jbo jbp jbk jbj jbe jbq jbE jgP jbi jcd jbs cyI jci jbt cyI jcj a3 cyJ n3 f3)) hP hD [0, 1, 2, 3] [4] [1, 2, 3, 4, 0] hCc rfl (by decide +kernel) (by decide +kernel) (by decide +kernel) rfl hk1 hFc hP1 hD1
    generalize H1 = H at hP hS hc9 ⊢
    obtain ⟨rfl, hw⟩ := hw
    refine vx_catch (own := RL) (name := "java/util/NoSuchElementException") hown [] ⟨0, 10, 13, 31⟩ [] (hTb.trans rfl) (fun z hz => nomatch hz) (by decide) (by decide) (hts _ qaR6) (va_Nw.use rfl (hY.2.2.2.1.2 _ (List.mem_of_getElem? (i := 1) rfl))) hc9 hv9 hcl9 ?_
    refine lv_astore (lv' := [(4, .ref qx9), (0, .ref a0), (1, .int p1), (2, .int p2), (3, .ref a3)]) hx hb (qaa qum 9 rfl) hl (by decide) rfl (fun ls hl => ?_)
    refine lv_iconst (v := 1) hx hb (qaa qum 10 rfl) (by decide) ?_
    exact (W.widen (k := 2) (n := 12) (nbq rfl) (nbq rfl) (W.iret (v := 1) hx hb hr (fun t ht hW => ⟨⟨1, (x1, f3), rfl, hw, by rw [ht]; exact hP, va_K.moved hW.alike hK, hD⟩, hS.F ht⟩) hS.2.2 (qaa qum 11 rfl)))
  obtain ⟨x1, rfl⟩ : ∃ z, z = u := ⟨_, rfl⟩
  obtain ⟨hP1, hK1, hD1⟩ := hB
  rw [ht] at hP1
  obtain ⟨hP, hD⟩ := va_join (wr := [(a3, .inl (cyJ, n3, .inr (.inl f3)))]) (w1 := (qJe a0 jaK jaR ja1 jcp jbc jbV ja3 jbH ja2 jbO jaq jac jbI jbl jbn jba jaa x1 jdD jaR jbs jbt jbo jbp jbk jbj jbe jbq jbE jgP jbi jcd jbs cyI jci jbt cyI jcj)) hP hD [0, 1, 2, 3] [4] rfl rfl (by decide) (by decide) hk1 hFc hP1 hD1
  have hP : va_P (dC, dI) vwCl (qZE a0 jaK jaR ja1 jcp jbc jbV ja3 jbH ja2 jbO jaq jac jbI jbl jbn jba jaa x1 jdD jaR jbs jbt jbo jbp jbk jbj jbe jbq jbE jgP jbi jcd jbs cyI jci jbt cyI jcj a3 cyJ n3 f3) H1 := hP.sub [1, 2, 3, 4, 0] rfl
  have hD : va_D A (qZE a0 jaK jaR ja1 jcp jbc jbV ja3 jbH ja2 jbO jaq jac jbI jbl jbn jba jaa x1 jdD jaR jbs jbt jbo jbp jbk jbj jbe jbq jbE jgP jbi jcd jbs cyI jci jbt cyI jcj a3 cyJ n3 f3) := hD.sub [1, 2, 3, 4, 0] (by decide) rfl
  generalize H1 = H at hP hS ⊢
  refine lv_i2l (v := r2.toInt64) hx hb (qaa qum 6 rfl) rfl ?_
  refine lv_topl (fun x3 ex3 => ?_)
  have hw := hw x3 ex3
  obtain ⟨hi9, hw⟩ := hw
  refine va_last hx hb hK hP hD hS 4 2 rfl rfl hi9 (qaa qum 7 rfl) (fun H locs hP hD hS => ?_)
  obtain ⟨f4, ef4⟩ : ∃ y : Nat → Int64, y = vp_updL f3 (0 : Int32).toNatClampNeg x3 := ⟨_, rfl⟩
  have hw := hw f4 ef4
  have hP : va_P (dC, dI) vwCl (qZE a0 jaK jaR ja1 jcp jbc jbV ja3 jbH ja2 jbO jaq jac jbI jbl jbn jba jaa x1 jdD jaR jbs jbt jbo jbp jbk jbj jbe jbq jbE jgP jbi jcd jbs cyI jci jbt cyI jcj a3 cyJ n3 f4) H := by rw [ef4]; exact hP
  have hD : va_D A (qZE a0 jaK jaR ja1 jcp jbc jbV ja3 jbH ja2 jbO jaq jac jbI jbl jbn jba jaa x1 jdD jaR jbs jbt jbo jbp jbk jbj jbe jbq jbE jgP jbi jcd jbs cyI jci jbt cyI jcj a3 cyJ n3 f4) := by rw [ef4]; exact hD
  refine lv_goto (tgt := 17) hx hb (qaa qum 8 rfl) (by decide) ?_
  refine lv_iconst (v := 0) hx hb (qaa qum 12 rfl) (by decide) ?_
  exact (W.widen (k := 2) (n := 12) (nbq rfl) (nbq rfl) (W.iret (v := 0) hx hb hr (fun t ht hW => ⟨⟨0, (x1, f4), rfl, hw, by rw [ht]; exact hP, va_K.moved hW.alike hK, hD⟩, hS.F ht⟩) hS.2.2 (qaa qum 13 rfl)))
set_option maxHeartbeats 4000000 in
set_option maxRecDepth 100000 in
theorem qatp {p : Program} {l : Launch} {e : Env} {s : State} {m : MethodId} {args : Array Value} {below : List Frame} {meth : Method} {c : Code} {A : Nat → Prop} (dC : Nat → ClassId) (dI : Nat → Nat → Nat) (cyB cyI cyJ cyP : ClassId) (Q : Int64 → Prop) (C0 : cfx p s m args meth c cX10_choices (some .long) wsX10_choices RX10 5 A (dC, dI) (kT cyB cyI cyJ cyP)) : ∀ (n : Nat) (H : Heap) (locs : List Loc) (ls : Array Slot) (l0 l1 : Int32) (l2 : Int64) (l4 : Int32), va_P (dC, dI) vwCl [] H → va_D A [] → va_S A s.heap H locs → lv_has ls 5 [(0, .int l0), (1, .int l1), (2, .long l2), (4, .int l4)] → qEC Q n l0 l1 l2 l4 → W p l e (headSpec wsX10_choices ({ frames := 0, cells := 0, slots := 0, locals := 0 })).room s m args below meth c H locs 0 0 (MQ below (va_Ql (fun (r : Int64) (_ : Unit) => Q r ) (cB (dC, dI) (kT cyB cyI cyJ cyP) A (fun u : Unit => ([] : va_W))) A) args s 0 0 A) (F0 m 5 ls []) := by
  obtain ⟨hx, hb, hr, hts, hown, hlocks, hml, hA, hK, hNw⟩ := id C0
  intro n
  induction n with
  | zero => intro H locs ls l0 l1 l2 l4 hP hD hS hl hw; exact False.elim hw
  | succ n ih =>
    intro H locs ls l0 l1 l2 l4 hP hD hS hl hw
    refine lv_iload hx hb (qaa qfv 4 rfl) (lv_at hl 3 rfl) ?_
    refine lv_iload_n hx hb (qaa qfv 5 rfl) rfl (lv_at hl 1 rfl) ?_
    refine lv_icmp_gt (tgt := 31) hx hb (qaa qfv 6 rfl) (by decide) (fun c1 => ?_) (fun c1 => ?_)
    · have hw := hw.1 c1
      refine lv_lload_n hx hb (qaa qti 5 rfl) rfl (lv_at hl 2 rfl) ?_
      exact ((W.lret (v := l2) hx hb hr (fun t ht hW => ⟨⟨l2, (), rfl, hw, by rw [ht]; exact hP, va_K.moved hW.alike hK, hD⟩, hS.F ht⟩) hS.2.2 (qaa qti 6 rfl)))
    · have hw := hw.2 c1
      refine lv_lload_n hx hb (qaa qfv 7 rfl) rfl (lv_at hl 2 rfl) ?_
      refine lv_iload_n hx hb (qaa qfv 8 rfl) rfl (lv_at hl 0 rfl) ?_
      refine lv_iload hx hb (qaa qfv 9 rfl) (lv_at hl 3 rfl) ?_
      refine lv_isub hx hb (qaa qfv 10 rfl) ?_
      refine lv_iconst (v := 1) hx hb (qaa qfv 11 rfl) (by decide) ?_
      refine lv_iadd hx hb (qaa qfv 12 rfl) ?_
      refine lv_i2l (v := ((l0 - l4) + 1).toInt64) hx hb (qaa qfv 13 rfl) rfl ?_
      refine lv_lmul hx hb (qaa qfv 14 rfl) ?_
      refine lv_iload hx hb (qaa qfv 15 rfl) (lv_at hl 3 rfl) ?_
      refine lv_i2l (v := l4.toInt64) hx hb (qaa qti 0 rfl) rfl ?_
      obtain ⟨hz9, hw⟩ := hw
      refine lv_ldiv hx hb (qaa qti 1 rfl) hz9 ?_
      refine lv_topl (fun x2 ex2 => ?_)
      have hw := hw x2 ex2
      refine lv_lstore_n (lv' := [(2, .long x2), (0, .int l0), (1, .int l1), (4, .int l4)]) hx hb (qaa qti 2 rfl) rfl hl (by decide) rfl (fun ls hl => ?_)
      obtain ⟨x3, ex3⟩ : ∃ y : Int32, y = l4 + 1 := ⟨_, rfl⟩
      have hw := hw x3 ex3
      refine lv_iinc (v := x3) (lv' := [(4, .int x3), (2, .long x2), (0, .int l0), (1, .int l1)]) hx hb (qaa qti 3 rfl) hl (k := 3) rfl (by rw [ex3]; rfl) (by decide) rfl (fun ls hl => ?_)
      refine lv_goto (tgt := 5) hx hb (qaa qti 4 rfl) (by decide) ?_
      exact ih _ _ _ l0 l1 x2 x3 hP hD hS (lv_sub hl [2, 3, 1, 0] rfl) hw
set_option maxHeartbeats 4000000 in
set_option maxRecDepth 100000 in
theorem qaKs (l : Launch) (dC : Nat → ClassId) (dI : Nat → Nat → Nat) (cyB cyI cyJ cyP : ClassId) (sz : Nat) (p0 p1 : Int32) {Q : Int64 → Prop} (hw : qUD p0 p1 Q) : Met l yX10_choices wsX10_choices ({ frames := 0, cells := 0, slots := 0, locals := 0 }) (va_Pc [.int p0, .int p1] (cPc (dC, dI) (kT cyB cyI cyJ cyP) [] sz)) (va_Ql (fun (r : Int64) (_ : Unit) => Q r ) (cB (dC, dI) (kT cyB cyI cyJ cyP) (va_A [] sz) (fun u : Unit => ([] : va_W))) (va_A [] sz)) 0 0 (va_A [] sz) := by
  refine Met.ofW (cc := cX10_choices) (maxL := 5) (ret := (some .long)) (by decide) rfl ?_
  intro p e s m args below meth c s₁ B hml hv
  obtain ⟨rfl, hsz, hP, hK, hD0, hNw⟩ := hv
  have hx := B.exec
  have hb := B.bytes
  have hr := B.returns
  have hts := atoms_spec (ws := wsX10_choices) B.pre
  have hown : s.vm.findClass RX10 = some m.cls := findClass_of_methodNamed B.named
  have hlocks := B.notSynchronized
  subst hsz
  have hD := hD0.self (sz := s.heap.size)
  generalize hAe : va_A [] s.heap.size = A at hD ⊢
  have hA : ∀ q : Nat, s.heap.size ≤ q → A q := fun q h => by rw [← hAe]; exact Or.inr h
  have hS : va_S A s.heap s.heap [] := va_S.rf
  have hP : va_P (dC, dI) vwCl [] s.heap := hP
  have hl := lv_entry ([.int p0, .int p1]) (n := 5) (nbq rfl)
  rw [lg_entry_eq]
  generalize (lg_sl ([.int p0, .int p1]) ++ List.replicate (5 - (lg_sl ([.int p0, .int p1])).length) Slot.unset).toArray = ls at hl ⊢
  have hl : lv_has ls 5 [(0, .int p0), (1, .int p1)] := hl
  have C0 : cfx p s m _ meth c cX10_choices (some .long) wsX10_choices RX10 5 A (dC, dI) (kT cyB cyI cyJ cyP) := ⟨hx, hb, hr, hts, hown, hlocks, hml, hA, hK, hNw⟩
  clear hAe
  obtain ⟨H, hH⟩ : ∃ H, H = s.heap := ⟨_, rfl⟩
  rw [← hH] at hP ⊢
  have hS : va_S A s.heap H [] := by rw [hH]; exact va_S.rf
  have hS := hS
  refine lv_lconst (v := 1) hx hb (qaa qfv 0 rfl) (by decide) ?_
  refine lv_lstore_n (lv' := [(2, .long 1), (0, .int p0), (1, .int p1)]) hx hb (qaa qfv 1 rfl) rfl hl (by decide) rfl (fun ls hl => ?_)
  refine lv_iconst (v := 1) hx hb (qaa qfv 2 rfl) (by decide) ?_
  refine lv_istore (lv' := [(4, .int 1), (2, .long 1), (0, .int p0), (1, .int p1)]) hx hb (qaa qfv 3 rfl) hl (by decide) rfl (fun ls hl => ?_)
  obtain ⟨n9, hw⟩ := hw
  exact qatp dC dI cyB cyI cyJ cyP Q C0 n9 _ _ _ p0 p1 1 1 hP hD hS (lv_sub hl [2, 3, 1, 0] rfl) hw
set_option maxHeartbeats 4000000 in
set_option maxRecDepth 100000 in
theorem qaJZ {p : Program} {l : Launch} {e : Env} {s : State} {m : MethodId} {args : Array Value} {below : List Frame} {meth : Method} {c : Code} {A : Nat → Prop} (dC : Nat → ClassId) (dI : Nat → Nat → Nat) (cyB cyI cyJ cyP : ClassId) (Q : Int64 → Prop) (C0 : cfx p s m args meth c cX10_power (some .long) wsX10_power RX10 5 A (dC, dI) (kT cyB cyI cyJ cyP)) : ∀ (n : Nat) (H : Heap) (locs : List Loc) (ls : Array Slot) (l0 l1 : Int32) (l2 : Int64) (l4 : Int32), va_P (dC, dI) vwCl [] H → va_D A [] → va_S A s.heap H locs → lv_has ls 5 [(0, .int l0), (1, .int l1), (2, .long l2), (4, .int l4)] → qK3 Q n l0 l1 l2 l4 → W p l e (headSpec wsX10_power ({ frames := 0, cells := 0, slots := 0, locals := 0 })).room s m args below meth c H locs 0 0 (MQ below (va_Ql (fun (r : Int64) (_ : Unit) => Q r ) (cB (dC, dI) (kT cyB cyI cyJ cyP) A (fun u : Unit => ([] : va_W))) A) args s 0 0 A) (F0 m 5 ls []) := by
  obtain ⟨hx, hb, hr, hts, hown, hlocks, hml, hA, hK, hNw⟩ := id C0
  intro n
  induction n with
  | zero => intro H locs ls l0 l1 l2 l4 hP hD hS hl hw; exact False.elim hw
  | succ n ih =>
    intro H locs ls l0 l1 l2 l4 hP hD hS hl hw
    refine lv_iload hx hb (qaa qjV 4 rfl) (lv_at hl 3 rfl) ?_
    refine lv_iload_n hx hb (qaa qjV 5 rfl) rfl (lv_at hl 1 rfl) ?_
    refine lv_icmp_ge (tgt := 22) hx hb (qaa qjV 6 rfl) (by decide) (fun c1 => ?_) (fun c1 => ?_)
    · have hw := hw.1 c1
      refine lv_lload_n hx hb (qaa qjV 14 rfl) rfl (lv_at hl 2 rfl) ?_
      exact ((W.lret (v := l2) hx hb hr (fun t ht hW => ⟨⟨l2, (), rfl, hw, by rw [ht]; exact hP, va_K.moved hW.alike hK, hD⟩, hS.F ht⟩) hS.2.2 (qaa qjV 15 rfl)))
    · have hw := hw.2 c1
      refine lv_lload_n hx hb (qaa qjV 7 rfl) rfl (lv_at hl 2 rfl) ?_
      refine lv_iload_n hx hb (qaa qjV 8 rfl) rfl (lv_at hl 0 rfl) ?_
      refine lv_i2l (v := l0.toInt64) hx hb (qaa qjV 9 rfl) rfl ?_
      refine lv_lmul hx hb (qaa qjV 10 rfl) ?_
      refine lv_topl (fun x2 ex2 => ?_)
      have hw := hw x2 ex2
      refine lv_lstore_n (lv' := [(2, .long x2), (0, .int l0), (1, .int l1), (4, .int l4)]) hx hb (qaa qjV 11 rfl) rfl hl (by decide) rfl (fun ls hl => ?_)
      obtain ⟨x3, ex3⟩ : ∃ y : Int32, y = l4 + 1 := ⟨_, rfl⟩
      have hw := hw x3 ex3
      refine lv_iinc (v := x3) (lv' := [(4, .int x3), (2, .long x2), (0, .int l0), (1, .int l1)]) hx hb (qaa qjV 12 rfl) hl (k := 3) rfl (by rw [ex3]; rfl) (by decide) rfl (fun ls hl => ?_)
      refine lv_goto (tgt := 5) hx hb (qaa qjV 13 rfl) (by decide) ?_
      exact ih _ _ _ l0 l1 x2 x3 hP hD hS (lv_sub hl [2, 3, 1, 0] rfl) hw
set_option maxHeartbeats 4000000 in
set_option maxRecDepth 100000 in
theorem qan2 (l : Launch) (dC : Nat → ClassId) (dI : Nat → Nat → Nat) (cyB cyI cyJ cyP : ClassId) (sz : Nat) (p0 p1 : Int32) {Q : Int64 → Prop} (hw : qRN p0 p1 Q) : Met l yX10_power wsX10_power ({ frames := 0, cells := 0, slots := 0, locals := 0 }) (va_Pc [.int p0, .int p1] (cPc (dC, dI) (kT cyB cyI cyJ cyP) [] sz)) (va_Ql (fun (r : Int64) (_ : Unit) => Q r ) (cB (dC, dI) (kT cyB cyI cyJ cyP) (va_A [] sz) (fun u : Unit => ([] : va_W))) (va_A [] sz)) 0 0 (va_A [] sz) := by
  refine Met.ofW (cc := cX10_power) (maxL := 5) (ret := (some .long)) (by decide) rfl ?_
  intro p e s m args below meth c s₁ B hml hv
  obtain ⟨rfl, hsz, hP, hK, hD0, hNw⟩ := hv
  have hx := B.exec
  have hb := B.bytes
  have hr := B.returns
  have hts := atoms_spec (ws := wsX10_power) B.pre
  have hown : s.vm.findClass RX10 = some m.cls := findClass_of_methodNamed B.named
  have hlocks := B.notSynchronized
  subst hsz
  have hD := hD0.self (sz := s.heap.size)
  generalize hAe : va_A [] s.heap.size = A at hD ⊢
  have hA : ∀ q : Nat, s.heap.size ≤ q → A q := fun q h => by rw [← hAe]; exact Or.inr h
  have hS : va_S A s.heap s.heap [] := va_S.rf
  have hP : va_P (dC, dI) vwCl [] s.heap := hP
  have hl := lv_entry ([.int p0, .int p1]) (n := 5) (nbq rfl)
  rw [lg_entry_eq]
  generalize (lg_sl ([.int p0, .int p1]) ++ List.replicate (5 - (lg_sl ([.int p0, .int p1])).length) Slot.unset).toArray = ls at hl ⊢
  have hl : lv_has ls 5 [(0, .int p0), (1, .int p1)] := hl
  have C0 : cfx p s m _ meth c cX10_power (some .long) wsX10_power RX10 5 A (dC, dI) (kT cyB cyI cyJ cyP) := ⟨hx, hb, hr, hts, hown, hlocks, hml, hA, hK, hNw⟩
  clear hAe
  obtain ⟨H, hH⟩ : ∃ H, H = s.heap := ⟨_, rfl⟩
  rw [← hH] at hP ⊢
  have hS : va_S A s.heap H [] := by rw [hH]; exact va_S.rf
  have hS := hS
  refine lv_lconst (v := 1) hx hb (qaa qjV 0 rfl) (by decide) ?_
  refine lv_lstore_n (lv' := [(2, .long 1), (0, .int p0), (1, .int p1)]) hx hb (qaa qjV 1 rfl) rfl hl (by decide) rfl (fun ls hl => ?_)
  refine lv_iconst (v := 0) hx hb (qaa qjV 2 rfl) (by decide) ?_
  refine lv_istore (lv' := [(4, .int 0), (2, .long 1), (0, .int p0), (1, .int p1)]) hx hb (qaa qjV 3 rfl) hl (by decide) rfl (fun ls hl => ?_)
  obtain ⟨n9, hw⟩ := hw
  exact qaJZ dC dI cyB cyI cyJ cyP Q C0 n9 _ _ _ p0 p1 1 0 hP hD hS (lv_sub hl [2, 3, 1, 0] rfl) hw
set_option maxHeartbeats 4000000 in
set_option maxRecDepth 100000 in
theorem qSV {p : Program} {l : Launch} {e : Env} {s : State} {m : MethodId} {args : Array Value} {below : List Frame} {meth : Method} {c : Code} {A : Nat → Prop} (dC : Nat → ClassId) (dI : Nat → Nat → Nat) (cyB cyI cyJ cyP : ClassId) (a0 : Nat) (jaK jfP ja1 jcp jbc jbV ja3 jbH ja2 jbO jaq jac jbI jbl jbn jba jaa jbA : Value) (E : String → Int32 → Prop) (Q : Int64 → Int32 → Prop) (C0 : cfx p s m args meth c cX10_few (some .long) wsX10_few RX10 10 A (dC, dI) (kT cyB cyI cyJ cyP) ∧ cfX l s c A) : ∀ (H : Heap) (locs : List Loc) (ls : Array Slot) (jbz l4 : Int32) (l5 : Int64) (l7 : Int64), va_P (dC, dI) vwCl (qna a0 jaK jfP ja1 jcp jbc jbV ja3 jbH ja2 jbO jaq jac jbI jbl jbn jba jaa jbA jbz) H → va_D A (qna a0 jaK jfP ja1 jcp jbc jbV ja3 jbH ja2 jbO jaq jac jbI jbl jbn jba jaa jbA jbz) → va_S A s.heap H locs → lv_has ls 10 [(4, .int l4), (5, .long l5), (7, .long l7)] → qAA E Q jbz l4 l5 l7 → W p l e (headSpec wsX10_few ({ frames := 8, cells := 4, slots := 24, locals := 164 })).room s m args below meth c H locs 4 24 (vx_MQ below (va_Ql (fun (r : Int64) (u : Int32) => Q r u) (cB (dC, dI) (kT cyB cyI cyJ cyP) A (fun u : Int32 => ((qna a0 jaK jfP ja1 jcp jbc jbV ja3 jbH ja2 jbO jaq jac jbI jbl jbn jba jaa jbA u) : va_W))) A) (vx_X (fun _ => True) (fun (en : String) (u : Int32) (t : State) => E en u ∧ cB (dC, dI) (kT cyB cyI cyJ cyP) A (fun u : Int32 => ((qna a0 jaK jfP ja1 jcp jbc jbV ja3 jbH ja2 jbO jaq jac jbI jbl jbn jba jaa jbA u) : va_W)) u t) A) args s 4 24 A) (F0 m 139 ls []) := by
  obtain ⟨⟨hx, hb, hr, hts, hown, hlocks, hml, hA, hK, hNw⟩, hXs⟩ := id C0
  have hY := hXs.2
  intro H locs ls jbz l4 l5 l7 hP hD hS hl hw
  refine lv_iload hx hb (qaa qrG 3 rfl) (lv_at hl 0 rfl) ?_
  refine lv_if_ne (tgt := 149) hx hb (qaa qrG 4 rfl) (by decide) (fun c19 => ?_) (fun c19 => ?_)
  · have hw := hw.1 c19
    refine lv_lload hx hb (qaa qrG 7 rfl) (lv_at hl 2 rfl) ?_
    exact vx_ret (W.widen (k := 4) (n := 24) (nbq rfl) (nbq rfl) (W.lret (v := l7) hx hb hr (fun t ht hW => ⟨⟨l7, (jbz), rfl, hw, by rw [ht]; exact hP, va_K.moved hW.alike hK, hD⟩, hS.F ht⟩) hS.2.2 (qaa qrG 8 rfl)))
  · have hw := hw.2 c19
    refine lv_lload hx hb (qaa qrG 5 rfl) (lv_at hl 1 rfl) ?_
    refine lv_goto (tgt := 151) hx hb (qaa qrG 6 rfl) (by decide) ?_
    exact vx_ret (W.widen (k := 4) (n := 24) (nbq rfl) (nbq rfl) (W.lret (v := l5) hx hb hr (fun t ht hW => ⟨⟨l5, (jbz), rfl, hw, by rw [ht]; exact hP, va_K.moved hW.alike hK, hD⟩, hS.F ht⟩) hS.2.2 (qaa qrG 8 rfl)))
set_option maxHeartbeats 4000000 in
set_option maxRecDepth 100000 in
theorem qaM7 {p : Program} {l : Launch} {e : Env} {s : State} {m : MethodId} {args : Array Value} {below : List Frame} {meth : Method} {c : Code} {A : Nat → Prop} (dC : Nat → ClassId) (dI : Nat → Nat → Nat) (cyB cyI cyJ cyP : ClassId) (a0 : Nat) (jaK jfP ja1 jcp jbc jbV ja3 jbH ja2 jbO jaq jac jbI jbl jbn jba jaa jbA : Value) (E : String → Int32 → Prop) (Q : Int64 → Int32 → Prop) (C0 : cfx p s m args meth c cX10_few (some .long) wsX10_few RX10 10 A (dC, dI) (kT cyB cyI cyJ cyP) ∧ cfX l s c A) : ∀ (n : Nat) (H : Heap) (locs : List Loc) (ls : Array Slot) (jbz l4 : Int32) (l5 : Int64) (l7 : Int64) (l9 : Int32), va_P (dC, dI) vwCl (qna a0 jaK jfP ja1 jcp jbc jbV ja3 jbH ja2 jbO jaq jac jbI jbl jbn jba jaa jbA jbz) H → va_D A (qna a0 jaK jfP ja1 jcp jbc jbV ja3 jbH ja2 jbO jaq jac jbI jbl jbn jba jaa jbA jbz) → va_S A s.heap H locs → lv_has ls 10 [(4, .int l4), (5, .long l5), (7, .long l7), (9, .int l9)] → qOd E Q n jbz l4 l5 l7 l9 → W p l e (headSpec wsX10_few ({ frames := 8, cells := 4, slots := 24, locals := 164 })).room s m args below meth c H locs 4 24 (vx_MQ below (va_Ql (fun (r : Int64) (u : Int32) => Q r u) (cB (dC, dI) (kT cyB cyI cyJ cyP) A (fun u : Int32 => ((qna a0 jaK jfP ja1 jcp jbc jbV ja3 jbH ja2 jbO jaq jac jbI jbl jbn jba jaa jbA u) : va_W))) A) (vx_X (fun _ => True) (fun (en : String) (u : Int32) (t : State) => E en u ∧ cB (dC, dI) (kT cyB cyI cyJ cyP) A (fun u : Int32 => ((qna a0 jaK jfP ja1 jcp jbc jbV ja3 jbH ja2 jbO jaq jac jbI jbl jbn jba jaa jbA u) : va_W)) u t) A) args s 4 24 A) (F0 m 96 ls []) := by
  obtain ⟨⟨hx, hb, hr, hts, hown, hlocks, hml, hA, hK, hNw⟩, hXs⟩ := id C0
  have hY := hXs.2
  intro n
  induction n with
  | zero => intro H locs ls jbz l4 l5 l7 l9 hP hD hS hl hw; exact False.elim hw
  | succ n ih =>
    intro H locs ls jbz l4 l5 l7 l9 hP hD hS hl hw
    refine lv_iload hx hb (qaa qmD 10 rfl) (lv_at hl 3 rfl) ?_
    refine lv_bipush (v := 48) hx hb (qaa qmD 11 rfl) (by decide) ?_
    refine lv_icmp_ge (tgt := 139) hx hb (qaa qmD 12 rfl) (by decide) (fun c13 => ?_) (fun c13 => ?_)
    · have hw := hw.1 c13
      exact qSV dC dI cyB cyI cyJ cyP a0 jaK jfP ja1 jcp jbc jbV ja3 jbH ja2 jbO jaq jac jbI jbl jbn jba jaa jbA E Q C0 _ _ _ jbz l4 l5 l7 hP hD hS (lv_sub hl [0, 1, 2] rfl) hw
    · have hw := hw.2 c13
      refine lv_lload hx hb (qaa qmD 13 rfl) (lv_at hl 1 rfl) ?_
      refine lv_lconst (v := 1) hx hb (qaa qmD 14 rfl) (by decide) ?_
      refine lv_land hx hb (qaa qmD 15 rfl) ?_
      refine lv_lconst (v := 0) hx hb (qaa qjh 0 rfl) (by decide) ?_
      refine W.lcmp hx hb (qaa qjh 1 rfl) ?_
      refine lv_if_ne (tgt := 139) hx hb (qaa qjh 2 rfl) (by decide) (fun c14 => ?_) (fun c14 => ?_)
      · have hw := hw.1 c14
        exact qSV dC dI cyB cyI cyJ cyP a0 jaK jfP ja1 jcp jbc jbV ja3 jbH ja2 jbO jaq jac jbI jbl jbn jba jaa jbA E Q C0 _ _ _ jbz l4 l5 l7 hP hD hS (lv_sub hl [0, 1, 2] rfl) hw
      · have hw := hw.2 c14
        refine lv_lload hx hb (qaa qjh 3 rfl) (lv_at hl 2 rfl) ?_
        refine lv_lconst (v := 1) hx hb (qaa qjh 4 rfl) (by decide) ?_
        refine lv_land hx hb (qaa qjh 5 rfl) ?_
        refine lv_lconst (v := 0) hx hb (qaa qjh 6 rfl) (by decide) ?_
        refine W.lcmp hx hb (qaa qjh 7 rfl) ?_
        refine lv_if_ne (tgt := 139) hx hb (qaa qjh 8 rfl) (by decide) (fun c15 => ?_) (fun c15 => ?_)
        · have hw := hw.1 c15
          exact qSV dC dI cyB cyI cyJ cyP a0 jaK jfP ja1 jcp jbc jbV ja3 jbH ja2 jbO jaq jac jbI jbl jbn jba jaa jbA E Q C0 _ _ _ jbz l4 l5 l7 hP hD hS (lv_sub hl [0, 1, 2] rfl) hw
        · have hw := hw.2 c15
          refine lv_lload hx hb (qaa qjh 9 rfl) (lv_at hl 1 rfl) ?_
          refine lv_iconst (v := 1) hx hb (qaa qjh 10 rfl) (by decide) ?_
          refine lv_lshr (v := l5 >>> ((1 : Int32).toInt64 &&& 63)) hx hb (qaa qjh 11 rfl) rfl ?_
          refine lv_topl (fun x16 ex16 => ?_)
          have hw := hw x16 ex16
          refine lv_lstore (lv' := [(5, .long x16), (4, .int l4), (7, .long l7), (9, .int l9)]) hx hb (qaa qjh 12 rfl) hl (by decide) rfl (fun ls hl => ?_)
          refine lv_lload hx hb (qaa qjh 13 rfl) (lv_at hl 2 rfl) ?_
          refine lv_iconst (v := 1) hx hb (qaa qjh 14 rfl) (by decide) ?_
          refine lv_lshr (v := l7 >>> ((1 : Int32).toInt64 &&& 63)) hx hb (qaa qjh 15 rfl) rfl ?_
          refine lv_topl (fun x17 ex17 => ?_)
          have hw := hw x17 ex17
          refine lv_lstore (lv' := [(7, .long x17), (5, .long x16), (4, .int l4), (9, .int l9)]) hx hb (qaa qrG 0 rfl) hl (by decide) rfl (fun ls hl => ?_)
          obtain ⟨x18, ex18⟩ : ∃ y : Int32, y = l9 + 1 := ⟨_, rfl⟩
          have hw := hw x18 ex18
          refine lv_iinc (v := x18) (lv' := [(9, .int x18), (7, .long x17), (5, .long x16), (4, .int l4)]) hx hb (qaa qrG 1 rfl) hl (k := 3) rfl (by rw [ex18]; rfl) (by decide) rfl (fun ls hl => ?_)
          refine lv_goto (tgt := 96) hx hb (qaa qrG 2 rfl) (by decide) ?_
          exact ih _ _ _ jbz l4 x16 x17 x18 hP hD hS (lv_sub hl [3, 2, 1, 0] rfl) hw
set_option maxHeartbeats 4000000 in
set_option maxRecDepth 100000 in
theorem qacy {p : Program} {l : Launch} {e : Env} {s : State} {m : MethodId} {args : Array Value} {below : List Frame} {meth : Method} {c : Code} {A : Nat → Prop} (dC : Nat → ClassId) (dI : Nat → Nat → Nat) (cyB cyI cyJ cyP : ClassId) (a0 : Nat) (jaK jfP ja1 jcp jbc jbV ja3 jbH ja2 jbO jaq jac jbI jbl jbn jba jaa jbA : Value) (E : String → Int32 → Prop) (Q : Int64 → Int32 → Prop) (C0 : cfx p s m args meth c cX10_few (some .long) wsX10_few RX10 10 A (dC, dI) (kT cyB cyI cyJ cyP) ∧ cfX l s c A) : ∀ (H : Heap) (locs : List Loc) (ls : Array Slot) (jbz l1 l4 : Int32) (l5 : Int64), va_P (dC, dI) vwCl (qna a0 jaK jfP ja1 jcp jbc jbV ja3 jbH ja2 jbO jaq jac jbI jbl jbn jba jaa jbA jbz) H → va_D A (qna a0 jaK jfP ja1 jcp jbc jbV ja3 jbH ja2 jbO jaq jac jbI jbl jbn jba jaa jbA jbz) → va_S A s.heap H locs → lv_has ls 10 [(1, .int l1), (4, .int l4), (5, .long l5)] → qNR E Q jbz l1 l4 l5 → W p l e (headSpec wsX10_few ({ frames := 8, cells := 4, slots := 24, locals := 164 })).room s m args below meth c H locs 4 24 (vx_MQ below (va_Ql (fun (r : Int64) (u : Int32) => Q r u) (cB (dC, dI) (kT cyB cyI cyJ cyP) A (fun u : Int32 => ((qna a0 jaK jfP ja1 jcp jbc jbV ja3 jbH ja2 jbO jaq jac jbI jbl jbn jba jaa jbA u) : va_W))) A) (vx_X (fun _ => True) (fun (en : String) (u : Int32) (t : State) => E en u ∧ cB (dC, dI) (kT cyB cyI cyJ cyP) A (fun u : Int32 => ((qna a0 jaK jfP ja1 jcp jbc jbV ja3 jbH ja2 jbO jaq jac jbI jbl jbn jba jaa jbA u) : va_W)) u t) A) args s 4 24 A) (F0 m 86 ls []) := by
  obtain ⟨⟨hx, hb, hr, hts, hown, hlocks, hml, hA, hK, hNw⟩, hXs⟩ := id C0
  have hY := hXs.2
  intro H locs ls jbz l1 l4 l5 hP hD hS hl hw
  refine lv_lconst (v := 1) hx hb (qaa qmD 2 rfl) (by decide) ?_
  refine lv_iconst (v := 4) hx hb (qaa qmD 3 rfl) (by decide) ?_
  refine lv_iload_n hx hb (qaa qmD 4 rfl) rfl (lv_at hl 0 rfl) ?_
  refine lv_imul hx hb (qaa qmD 5 rfl) ?_
  refine lv_lshl (v := (1 : Int64) <<< ((4 * l1).toInt64 &&& 63)) hx hb (qaa qmD 6 rfl) rfl ?_
  refine lv_topl (fun x12 ex12 => ?_)
  have hw := hw x12 ex12
  refine lv_lstore (lv' := [(7, .long x12), (1, .int l1), (4, .int l4), (5, .long l5)]) hx hb (qaa qmD 7 rfl) hl (by decide) rfl (fun ls hl => ?_)
  refine lv_iconst (v := 0) hx hb (qaa qmD 8 rfl) (by decide) ?_
  refine lv_istore (lv' := [(9, .int 0), (7, .long x12), (1, .int l1), (4, .int l4), (5, .long l5)]) hx hb (qaa qmD 9 rfl) hl (by decide) rfl (fun ls hl => ?_)
  obtain ⟨n9, hw⟩ := hw
  exact qaM7 dC dI cyB cyI cyJ cyP a0 jaK jfP ja1 jcp jbc jbV ja3 jbH ja2 jbO jaq jac jbI jbl jbn jba jaa jbA E Q C0 n9 _ _ _ jbz l4 l5 x12 0 hP hD hS (lv_sub hl [3, 4, 1, 0] rfl) hw
set_option maxHeartbeats 4000000 in
set_option maxRecDepth 100000 in
theorem qaOW {p : Program} {l : Launch} {e : Env} {s : State} {m : MethodId} {args : Array Value} {below : List Frame} {meth : Method} {c : Code} {A : Nat → Prop} (dC : Nat → ClassId) (dI : Nat → Nat → Nat) (cyB cyI cyJ cyP : ClassId) (a0 : Nat) (jaK jfP ja1 jcp jbc jbV ja3 jbH ja2 jbO jaq jac jbI jbl jbn jba jaa jbA : Value) (E : String → Int32 → Prop) (Q : Int64 → Int32 → Prop) (C0 : cfx p s m args meth c cX10_few (some .long) wsX10_few RX10 10 A (dC, dI) (kT cyB cyI cyJ cyP) ∧ cfX l s c A) : ∀ (n : Nat) (H : Heap) (locs : List Loc) (ls : Array Slot) (jbz l1 l2 l3 l4 : Int32) (l5 : Int64) (l7 : Int32), va_P (dC, dI) vwCl (qna a0 jaK jfP ja1 jcp jbc jbV ja3 jbH ja2 jbO jaq jac jbI jbl jbn jba jaa jbA jbz) H → va_D A (qna a0 jaK jfP ja1 jcp jbc jbV ja3 jbH ja2 jbO jaq jac jbI jbl jbn jba jaa jbA jbz) → va_S A s.heap H locs → lv_has ls 10 [(1, .int l1), (2, .int l2), (3, .int l3), (4, .int l4), (5, .long l5), (7, .int l7)] → qOk E Q n jbz l1 l2 l3 l4 l5 l7 → W p l e (headSpec wsX10_few ({ frames := 8, cells := 4, slots := 24, locals := 164 })).room s m args below meth c H locs 4 24 (vx_MQ below (va_Ql (fun (r : Int64) (u : Int32) => Q r u) (cB (dC, dI) (kT cyB cyI cyJ cyP) A (fun u : Int32 => ((qna a0 jaK jfP ja1 jcp jbc jbV ja3 jbH ja2 jbO jaq jac jbI jbl jbn jba jaa jbA u) : va_W))) A) (vx_X (fun _ => True) (fun (en : String) (u : Int32) (t : State) => E en u ∧ cB (dC, dI) (kT cyB cyI cyJ cyP) A (fun u : Int32 => ((qna a0 jaK jfP ja1 jcp jbc jbV ja3 jbH ja2 jbO jaq jac jbI jbl jbn jba jaa jbA u) : va_W)) u t) A) args s 4 24 A) (F0 m 38 ls []) := by
  obtain ⟨⟨hx, hb, hr, hts, hown, hlocks, hml, hA, hK, hNw⟩, hXs⟩ := id C0
  have hY := hXs.2
  intro n
  induction n with
  | zero => intro H locs ls jbz l1 l2 l3 l4 l5 l7 hP hD hS hl hw; exact False.elim hw
  | succ n ih =>
    intro H locs ls jbz l1 l2 l3 l4 l5 l7 hP hD hS hl hw
    refine lv_iload hx hb (qaa qlk 8 rfl) (lv_at hl 5 rfl) ?_
    refine lv_iload_n hx hb (qaa qlk 9 rfl) rfl (lv_at hl 1 rfl) ?_
    refine lv_icmp_gt (tgt := 86) hx hb (qaa qlk 10 rfl) (by decide) (fun c5 => ?_) (fun c5 => ?_)
    · have hw := hw.1 c5
      exact qacy dC dI cyB cyI cyJ cyP a0 jaK jfP ja1 jcp jbc jbV ja3 jbH ja2 jbO jaq jac jbI jbl jbn jba jaa jbA E Q C0 _ _ _ jbz l1 l4 l5 hP hD hS (lv_sub hl [0, 3, 4] rfl) hw
    · have hw := hw.2 c5
      refine lv_iload hx hb (qaa qlk 11 rfl) (lv_at hl 5 rfl) ?_
      refine lv_iload_n hx hb (qaa qlk 12 rfl) rfl (lv_at hl 0 rfl) ?_
      refine lv_icmp_gt (tgt := 86) hx hb (qaa qlk 13 rfl) (by decide) (fun c6 => ?_) (fun c6 => ?_)
      · have hw := hw.1 c6
        exact qacy dC dI cyB cyI cyJ cyP a0 jaK jfP ja1 jcp jbc jbV ja3 jbH ja2 jbO jaq jac jbI jbl jbn jba jaa jbA E Q C0 _ _ _ jbz l1 l4 l5 hP hD hS (lv_sub hl [0, 3, 4] rfl) hw
      · have hw := hw.2 c6
        refine lv_lload hx hb (qaa qlk 14 rfl) (lv_at hl 4 rfl) ?_
        refine lv_iload_n hx hb (qaa qlk 15 rfl) rfl (lv_at hl 0 rfl) ?_
        refine lv_iload hx hb (qaa qlD 0 rfl) (lv_at hl 5 rfl) ?_
        obtain ⟨hCc, hPc, hDc, hFc⟩ := qac (ws' := []) hP hD hS hA [] (by decide +kernel) rfl
        refine va_calll (va_runS (As := [.int l1, .int l7]) (rest := [.long l5]) ⟨hx, hb, hml, hown, hts⟩ (qaKs l dC dI cyB cyI cyJ cyP H.size l1 l7 hw) (va_cwS 2 hts gX10_few_X10_choices rfl rfl rfl (by decide +kernel) ⟨nbq rfl, nbq rfl⟩) ⟨qab, qae hPc hK hDc hNw⟩ rfl rfl hl.1 rfl (lv_room (nbq rfl)) (qaa qlD 1 rfl) ⟨nbq rfl, nbq rfl⟩) hS (fun q _ h => hFc q h) hFc (fun r7 u t H1 locs ht hvm hw hB hz1 hk1 hS => ?_)
        obtain ⟨hP1, hK1, hD1⟩ := hB
        rw [ht] at hP1
        obtain ⟨hP, hD⟩ := qah (wr := (qna a0 jaK jfP ja1 jcp jbc jbV ja3 jbH ja2 jbO jaq jac jbI jbl jbn jba jaa jbA jbz)) (w1 := []) (wn := (qna a0 jaK jfP ja1 jcp jbc jbV ja3 jbH ja2 jbO jaq jac jbI jbl jbn jba jaa jbA jbz)) hP hD [] [0] hCc rfl (by decide +kernel) (by decide +kernel) rfl hk1 hFc hP1 hD1
        generalize H1 = H at hP hS ⊢
        refine lv_iload_n hx hb (qaa qlD 2 rfl) rfl (lv_at hl 2 rfl) ?_
        refine lv_iload hx hb (qaa qlD 3 rfl) (lv_at hl 5 rfl) ?_
        obtain ⟨hCc, hPc, hDc, hFc⟩ := qac (ws' := []) hP hD hS hA [] (by decide +kernel) rfl
        refine va_calll (va_runS (As := [.int l3, .int l7]) (rest := [.long r7, .long l5]) ⟨hx, hb, hml, hown, hts⟩ (qan2 l dC dI cyB cyI cyJ cyP H.size l3 l7 hw) (va_cwS 2 hts gX10_few_X10_power rfl rfl rfl (by decide +kernel) ⟨nbq rfl, nbq rfl⟩) ⟨qab, qae hPc hK hDc hNw⟩ rfl rfl hl.1 rfl (lv_room (nbq rfl)) (qaa qlD 4 rfl) ⟨nbq rfl, nbq rfl⟩) hS (fun q _ h => hFc q h) hFc (fun r8 u t H1 locs ht hvm hw hB hz1 hk1 hS => ?_)
        obtain ⟨hP1, hK1, hD1⟩ := hB
        rw [ht] at hP1
        obtain ⟨hP, hD⟩ := qah (wr := (qna a0 jaK jfP ja1 jcp jbc jbV ja3 jbH ja2 jbO jaq jac jbI jbl jbn jba jaa jbA jbz)) (w1 := []) (wn := (qna a0 jaK jfP ja1 jcp jbc jbV ja3 jbH ja2 jbO jaq jac jbI jbl jbn jba jaa jbA jbz)) hP hD [] [0] hCc rfl (by decide +kernel) (by decide +kernel) rfl hk1 hFc hP1 hD1
        generalize H1 = H at hP hS ⊢
        refine lv_lmul hx hb (qaa qlD 5 rfl) ?_
        refine lv_bipush (v := 16) hx hb (qaa qlD 6 rfl) (by decide) ?_
        refine lv_iload_n hx hb (qaa qlD 7 rfl) rfl (lv_at hl 2 rfl) ?_
        refine lv_isub hx hb (qaa qlD 8 rfl) ?_
        refine lv_iload_n hx hb (qaa qlD 9 rfl) rfl (lv_at hl 0 rfl) ?_
        refine lv_iload hx hb (qaa qlD 10 rfl) (lv_at hl 5 rfl) ?_
        refine lv_isub hx hb (qaa qlD 11 rfl) ?_
        obtain ⟨hCc, hPc, hDc, hFc⟩ := qac (ws' := []) hP hD hS hA [] (by decide +kernel) rfl
        refine va_calll (va_runS (As := [.int (16 - l3), .int (l1 - l7)]) (rest := [.long (r7 * r8), .long l5]) ⟨hx, hb, hml, hown, hts⟩ (qan2 l dC dI cyB cyI cyJ cyP H.size (16 - l3) (l1 - l7) hw) (va_cwS 2 hts gX10_few_X10_power rfl rfl rfl (by decide +kernel) ⟨nbq rfl, nbq rfl⟩) ⟨qab, qae hPc hK hDc hNw⟩ rfl rfl hl.1 rfl (lv_room (nbq rfl)) (qaa qlD 12 rfl) ⟨nbq rfl, nbq rfl⟩) hS (fun q _ h => hFc q h) hFc (fun r9 u t H1 locs ht hvm hw hB hz1 hk1 hS => ?_)
        obtain ⟨hP1, hK1, hD1⟩ := hB
        rw [ht] at hP1
        obtain ⟨hP, hD⟩ := qah (wr := (qna a0 jaK jfP ja1 jcp jbc jbV ja3 jbH ja2 jbO jaq jac jbI jbl jbn jba jaa jbA jbz)) (w1 := []) (wn := (qna a0 jaK jfP ja1 jcp jbc jbV ja3 jbH ja2 jbO jaq jac jbI jbl jbn jba jaa jbA jbz)) hP hD [] [0] hCc rfl (by decide +kernel) (by decide +kernel) rfl hk1 hFc hP1 hD1
        generalize H1 = H at hP hS ⊢
        refine lv_lmul hx hb (qaa qlD 13 rfl) ?_
        refine lv_ladd hx hb (qaa qlD 14 rfl) ?_
        refine lv_topl (fun x10 ex10 => ?_)
        have hw := hw x10 ex10
        refine lv_lstore (lv' := [(5, .long x10), (1, .int l1), (2, .int l2), (3, .int l3), (4, .int l4), (7, .int l7)]) hx hb (qaa qlD 15 rfl) hl (by decide) rfl (fun ls hl => ?_)
        obtain ⟨x11, ex11⟩ : ∃ y : Int32, y = l7 + 1 := ⟨_, rfl⟩
        have hw := hw x11 ex11
        refine lv_iinc (v := x11) (lv' := [(7, .int x11), (5, .long x10), (1, .int l1), (2, .int l2), (3, .int l3), (4, .int l4)]) hx hb (qaa qmD 0 rfl) hl (k := 5) rfl (by rw [ex11]; rfl) (by decide) rfl (fun ls hl => ?_)
        refine lv_goto (tgt := 38) hx hb (qaa qmD 1 rfl) (by decide) ?_
        exact ih _ _ _ jbz l1 l2 l3 l4 x10 x11 hP hD hS (lv_sub hl [2, 3, 4, 5, 1, 0] rfl) hw
set_option maxHeartbeats 4000000 in
set_option maxRecDepth 100000 in
theorem qa2u (l : Launch) (dC : Nat → ClassId) (dI : Nat → Nat → Nat) (cyB cyI cyJ cyP : ClassId) (a0 sz : Nat) (jaK jfP ja1 jcp jbc jbV ja3 jbH ja2 jbO jaq jac jbI jbl jbn jba jaa jbA : Value) (jbz p1 p2 p3 p4 : Int32) {E : String → Int32 → Prop} {Q : Int64 → Int32 → Prop} (hw : qaMc jbz p1 p2 p3 p4 E Q) : vx_Met l yX10_few wsX10_few ({ frames := 8, cells := 4, slots := 24, locals := 164 }) (va_Pc [.ref a0, .int p1, .int p2, .int p3, .int p4] (cPx l (dC, dI) (kT cyB cyI cyJ cyP) (qna a0 jaK jfP ja1 jcp jbc jbV ja3 jbH ja2 jbO jaq jac jbI jbl jbn jba jaa jbA jbz) sz)) (va_Ql (fun (r : Int64) (u : Int32) => Q r u) (cB (dC, dI) (kT cyB cyI cyJ cyP) (va_A (qna a0 jaK jfP ja1 jcp jbc jbV ja3 jbH ja2 jbO jaq jac jbI jbl jbn jba jaa jbA jbz) sz) (fun u : Int32 => ((qna a0 jaK jfP ja1 jcp jbc jbV ja3 jbH ja2 jbO jaq jac jbI jbl jbn jba jaa jbA u) : va_W))) (va_A (qna a0 jaK jfP ja1 jcp jbc jbV ja3 jbH ja2 jbO jaq jac jbI jbl jbn jba jaa jbA jbz) sz)) (vx_X (fun _ => True) (fun (en : String) (u : Int32) (t : State) => E en u ∧ cB (dC, dI) (kT cyB cyI cyJ cyP) (va_A (qna a0 jaK jfP ja1 jcp jbc jbV ja3 jbH ja2 jbO jaq jac jbI jbl jbn jba jaa jbA jbz) sz) (fun u : Int32 => ((qna a0 jaK jfP ja1 jcp jbc jbV ja3 jbH ja2 jbO jaq jac jbI jbl jbn jba jaa jbA u) : va_W)) u t) (va_A (qna a0 jaK jfP ja1 jcp jbc jbV ja3 jbH ja2 jbO jaq jac jbI jbl jbn jba jaa jbA jbz) sz)) 4 24 (va_A (qna a0 jaK jfP ja1 jcp jbc jbV ja3 jbH ja2 jbO jaq jac jbI jbl jbn jba jaa jbA jbz) sz) := by
  refine vx_ofW (cc := cX10_few) (maxL := 10) (ret := (some .long)) (by decide) rfl ?_
  intro p e s m args below meth c s₁ B hml hnt hv
  obtain ⟨rfl, hsz, hP, hK, hD0, hNw, hXl, hXu, hXn, hXt⟩ := hv
  have hx := B.exec
  have hb := B.bytes
  have hr := B.returns
  have hts := atoms_spec (ws := wsX10_few) B.pre
  have hown : s.vm.findClass RX10 = some m.cls := findClass_of_methodNamed B.named
  have hlocks := B.notSynchronized
  subst hsz
  have hD := hD0.self (sz := s.heap.size)
  generalize hAe : va_A (qna a0 jaK jfP ja1 jcp jbc jbV ja3 jbH ja2 jbO jaq jac jbI jbl jbn jba jaa jbA jbz) s.heap.size = A at hD hXu hXn ⊢
  have hA : ∀ q : Nat, s.heap.size ≤ q → A q := fun q h => by rw [← hAe]; exact Or.inr h
  have hS : va_S A s.heap s.heap [] := va_S.rf
  have hP : va_P (dC, dI) vwCl (qna a0 jaK jfP ja1 jcp jbc jbV ja3 jbH ja2 jbO jaq jac jbI jbl jbn jba jaa jbA jbz) s.heap := hP
  have hl := lv_entry ([.ref a0, .int p1, .int p2, .int p3, .int p4]) (n := 10) (nbq rfl)
  rw [lg_entry_eq]
  generalize (lg_sl ([.ref a0, .int p1, .int p2, .int p3, .int p4]) ++ List.replicate (10 - (lg_sl ([.ref a0, .int p1, .int p2, .int p3, .int p4])).length) Slot.unset).toArray = ls at hl ⊢
  have hl : lv_has ls 10 [(0, .ref a0), (1, .int p1), (2, .int p2), (3, .int p3), (4, .int p4)] := hl
  have hY : cfY l s A := ⟨hXl, hXu, hXn, hXt⟩
  have hXs : cfX l s c A := ⟨hnt, hY⟩
  have C0 : cfx p s m _ meth c cX10_few (some .long) wsX10_few RX10 10 A (dC, dI) (kT cyB cyI cyJ cyP) ∧ cfX l s c A := ⟨⟨hx, hb, hr, hts, hown, hlocks, hml, hA, hK, hNw⟩, hXs⟩
  clear hAe
  obtain ⟨H, hH⟩ : ∃ H, H = s.heap := ⟨_, rfl⟩
  rw [← hH] at hP ⊢
  have hS : va_S A s.heap H [] := by rw [hH]; exact va_S.rf
  have hS := hS
  refine lv_aload_n hx hb (qaa qox 0 rfl) rfl (lv_at hl 0 rfl) ?_
  refine lv_iload_n hx hb (qaa qox 1 rfl) rfl (lv_at hl 1 rfl) ?_
  refine lv_iconst (v := 0) hx hb (qaa qox 2 rfl) (by decide) ?_
  refine lv_bipush (v := 12) hx hb (qaa qox 3 rfl) (by decide) ?_
  obtain ⟨hCc, hPc, hDc, hFc⟩ := qac (ws' := (qna a0 jaK jfP ja1 jcp jbc jbV ja3 jbH ja2 jbO jaq jac jbI jbl jbn jba jaa jbA jbz)) hP hD hS hA [0] (by decide +kernel) rfl
  refine vx_callv (vx_runV (As := [.int p1, .int 0, .int 12]) (rest := []) ⟨hx, hb, hml, hown, hts⟩ (qaV l dC dI cyB cyI cyJ cyP a0 H.size (jaK) (jfP) (ja1) (jcp) (jbc) (jbV) (ja3) (jbH) (ja2) (jbO) (jaq) (jac) (jbI) (jbl) (jbn) (jba) (jaa) (jbA) jbz p1 0 12 hw) (cwV 3 hts gX10_few_X10_needWithin rfl rfl rfl (by decide +kernel) ⟨nbq rfl, nbq rfl⟩) ⟨qau, va_recv (q := (RX10, TX10, 19)) hK hPc (ci := 10) (q0 := 0) rfl rfl, qbk hPc hK hDc hNw hY hS hFc⟩ rfl rfl hl.1 rfl (lv_room (nbq rfl)) (qaa qox 4 rfl) ⟨nbq rfl, nbq rfl⟩) hS (fun q _ h => hFc q h) hFc (fun q _ h => hFc q h) (fun en ce q9 u t H1 locs ht hvm hpx hB hz1 hk1 hS hc9 hv9 hcl9 => ?_) (fun u t H1 locs ht hvm hw hB hz1 hk1 hS => ?_)
  · obtain ⟨x1, rfl⟩ : ∃ z, z = u := ⟨_, rfl⟩
    obtain ⟨hw, hP1, hK1, hD1⟩ := hB
    rw [ht] at hP1
    obtain ⟨hP, hD⟩ := qah (wr := []) (w1 := (qna a0 jaK jfP ja1 jcp jbc jbV ja3 jbH ja2 jbO jaq jac jbI jbl jbn jba jaa jbA x1)) (wn := (qna a0 jaK jfP ja1 jcp jbc jbV ja3 jbH ja2 jbO jaq jac jbI jbl jbn jba jaa jbA x1)) hP hD [0] [] hCc rfl (by decide +kernel) (by decide +kernel) rfl hk1 hFc hP1 hD1
    generalize H1 = H at hP hS hc9 ⊢
    exact vx_out (fun x hx9 => (hXs.1 x hx9).elim) hlocks hc9 hv9 hcl9 (fun t2 ht2 hal2 => ⟨(x1), trivial, ⟨hw, by rw [ht2]; exact hP, va_K.moved hal2 hK, hD⟩, hS.F ht2⟩) hS.2.2 (nbq rfl) (nbq rfl)
  obtain ⟨x1, rfl⟩ : ∃ z, z = u := ⟨_, rfl⟩
  obtain ⟨hP1, hK1, hD1⟩ := hB
  rw [ht] at hP1
  obtain ⟨hP, hD⟩ := qah (wr := []) (w1 := (qna a0 jaK jfP ja1 jcp jbc jbV ja3 jbH ja2 jbO jaq jac jbI jbl jbn jba jaa jbA x1)) (wn := (qna a0 jaK jfP ja1 jcp jbc jbV ja3 jbH ja2 jbO jaq jac jbI jbl jbn jba jaa jbA x1)) hP hD [0] [] hCc rfl (by decide +kernel) (by decide +kernel) rfl hk1 hFc hP1 hD1
  generalize H1 = H at hP hS ⊢
  refine lv_aload_n hx hb (qaa qox 5 rfl) rfl (lv_at hl 0 rfl) ?_
  refine lv_iload_n hx hb (qaa qox 6 rfl) rfl (lv_at hl 2 rfl) ?_
  refine lv_iconst (v := 0) hx hb (qaa qox 7 rfl) (by decide) ?_
  refine lv_bipush (v := 12) hx hb (qaa qox 8 rfl) (by decide) ?_
  obtain ⟨hCc, hPc, hDc, hFc⟩ := qac (ws' := (qna a0 jaK jfP ja1 jcp jbc jbV ja3 jbH ja2 jbO jaq jac jbI jbl jbn jba jaa jbA x1)) hP hD hS hA [0] (by decide +kernel) rfl
  refine vx_callv (vx_runV (As := [.int p2, .int 0, .int 12]) (rest := []) ⟨hx, hb, hml, hown, hts⟩ (qaV l dC dI cyB cyI cyJ cyP a0 H.size (jaK) (jfP) (ja1) (jcp) (jbc) (jbV) (ja3) (jbH) (ja2) (jbO) (jaq) (jac) (jbI) (jbl) (jbn) (jba) (jaa) (jbA) x1 p2 0 12 hw) (cwV 3 hts gX10_few_X10_needWithin rfl rfl rfl (by decide +kernel) ⟨nbq rfl, nbq rfl⟩) ⟨qau, va_recv (q := (RX10, TX10, 19)) hK hPc (ci := 10) (q0 := 0) rfl rfl, qbk hPc hK hDc hNw hY hS hFc⟩ rfl rfl hl.1 rfl (lv_room (nbq rfl)) (qaa qox 9 rfl) ⟨nbq rfl, nbq rfl⟩) hS (fun q _ h => hFc q h) hFc (fun q _ h => hFc q h) (fun en ce q9 u t H1 locs ht hvm hpx hB hz1 hk1 hS hc9 hv9 hcl9 => ?_) (fun u t H1 locs ht hvm hw hB hz1 hk1 hS => ?_)
  · obtain ⟨x2, rfl⟩ : ∃ z, z = u := ⟨_, rfl⟩
    obtain ⟨hw, hP1, hK1, hD1⟩ := hB
    rw [ht] at hP1
    obtain ⟨hP, hD⟩ := qah (wr := []) (w1 := (qna a0 jaK jfP ja1 jcp jbc jbV ja3 jbH ja2 jbO jaq jac jbI jbl jbn jba jaa jbA x2)) (wn := (qna a0 jaK jfP ja1 jcp jbc jbV ja3 jbH ja2 jbO jaq jac jbI jbl jbn jba jaa jbA x2)) hP hD [0] [] hCc rfl (by decide +kernel) (by decide +kernel) rfl hk1 hFc hP1 hD1
    generalize H1 = H at hP hS hc9 ⊢
    exact vx_out (fun x hx9 => (hXs.1 x hx9).elim) hlocks hc9 hv9 hcl9 (fun t2 ht2 hal2 => ⟨(x2), trivial, ⟨hw, by rw [ht2]; exact hP, va_K.moved hal2 hK, hD⟩, hS.F ht2⟩) hS.2.2 (nbq rfl) (nbq rfl)
  obtain ⟨x2, rfl⟩ : ∃ z, z = u := ⟨_, rfl⟩
  obtain ⟨hP1, hK1, hD1⟩ := hB
  rw [ht] at hP1
  obtain ⟨hP, hD⟩ := qah (wr := []) (w1 := (qna a0 jaK jfP ja1 jcp jbc jbV ja3 jbH ja2 jbO jaq jac jbI jbl jbn jba jaa jbA x2)) (wn := (qna a0 jaK jfP ja1 jcp jbc jbV ja3 jbH ja2 jbO jaq jac jbI jbl jbn jba jaa jbA x2)) hP hD [0] [] hCc rfl (by decide +kernel) (by decide +kernel) rfl hk1 hFc hP1 hD1
  generalize H1 = H at hP hS ⊢
  refine lv_aload_n hx hb (qaa qox 10 rfl) rfl (lv_at hl 0 rfl) ?_
  refine lv_iload_n hx hb (qaa qox 11 rfl) rfl (lv_at hl 3 rfl) ?_
  refine lv_iconst (v := 0) hx hb (qaa qox 12 rfl) (by decide) ?_
  refine lv_bipush (v := 16) hx hb (qaa qox 13 rfl) (by decide) ?_
  obtain ⟨hCc, hPc, hDc, hFc⟩ := qac (ws' := (qna a0 jaK jfP ja1 jcp jbc jbV ja3 jbH ja2 jbO jaq jac jbI jbl jbn jba jaa jbA x2)) hP hD hS hA [0] (by decide +kernel) rfl
  refine vx_callv (vx_runV (As := [.int p3, .int 0, .int 16]) (rest := []) ⟨hx, hb, hml, hown, hts⟩ (qaV l dC dI cyB cyI cyJ cyP a0 H.size (jaK) (jfP) (ja1) (jcp) (jbc) (jbV) (ja3) (jbH) (ja2) (jbO) (jaq) (jac) (jbI) (jbl) (jbn) (jba) (jaa) (jbA) x2 p3 0 16 hw) (cwV 3 hts gX10_few_X10_needWithin rfl rfl rfl (by decide +kernel) ⟨nbq rfl, nbq rfl⟩) ⟨qau, va_recv (q := (RX10, TX10, 19)) hK hPc (ci := 10) (q0 := 0) rfl rfl, qbk hPc hK hDc hNw hY hS hFc⟩ rfl rfl hl.1 rfl (lv_room (nbq rfl)) (qaa qox 14 rfl) ⟨nbq rfl, nbq rfl⟩) hS (fun q _ h => hFc q h) hFc (fun q _ h => hFc q h) (fun en ce q9 u t H1 locs ht hvm hpx hB hz1 hk1 hS hc9 hv9 hcl9 => ?_) (fun u t H1 locs ht hvm hw hB hz1 hk1 hS => ?_)
  · obtain ⟨x3, rfl⟩ : ∃ z, z = u := ⟨_, rfl⟩
    obtain ⟨hw, hP1, hK1, hD1⟩ := hB
    rw [ht] at hP1
    obtain ⟨hP, hD⟩ := qah (wr := []) (w1 := (qna a0 jaK jfP ja1 jcp jbc jbV ja3 jbH ja2 jbO jaq jac jbI jbl jbn jba jaa jbA x3)) (wn := (qna a0 jaK jfP ja1 jcp jbc jbV ja3 jbH ja2 jbO jaq jac jbI jbl jbn jba jaa jbA x3)) hP hD [0] [] hCc rfl (by decide +kernel) (by decide +kernel) rfl hk1 hFc hP1 hD1
    generalize H1 = H at hP hS hc9 ⊢
    exact vx_out (fun x hx9 => (hXs.1 x hx9).elim) hlocks hc9 hv9 hcl9 (fun t2 ht2 hal2 => ⟨(x3), trivial, ⟨hw, by rw [ht2]; exact hP, va_K.moved hal2 hK, hD⟩, hS.F ht2⟩) hS.2.2 (nbq rfl) (nbq rfl)
  obtain ⟨x3, rfl⟩ : ∃ z, z = u := ⟨_, rfl⟩
  obtain ⟨hP1, hK1, hD1⟩ := hB
  rw [ht] at hP1
  obtain ⟨hP, hD⟩ := qah (wr := []) (w1 := (qna a0 jaK jfP ja1 jcp jbc jbV ja3 jbH ja2 jbO jaq jac jbI jbl jbn jba jaa jbA x3)) (wn := (qna a0 jaK jfP ja1 jcp jbc jbV ja3 jbH ja2 jbO jaq jac jbI jbl jbn jba jaa jbA x3)) hP hD [0] [] hCc rfl (by decide +kernel) (by decide +kernel) rfl hk1 hFc hP1 hD1
  generalize H1 = H at hP hS ⊢
  refine lv_aload_n hx hb (qaa qox 15 rfl) rfl (lv_at hl 0 rfl) ?_
  refine lv_iload hx hb (qaa qlk 0 rfl) (lv_at hl 4 rfl) ?_
  refine lv_iconst (v := 0) hx hb (qaa qlk 1 rfl) (by decide) ?_
  refine lv_iconst (v := 1) hx hb (qaa qlk 2 rfl) (by decide) ?_
  obtain ⟨hCc, hPc, hDc, hFc⟩ := qac (ws' := (qna a0 jaK jfP ja1 jcp jbc jbV ja3 jbH ja2 jbO jaq jac jbI jbl jbn jba jaa jbA x3)) hP hD hS hA [0] (by decide +kernel) rfl
  refine vx_callv (vx_runV (As := [.int p4, .int 0, .int 1]) (rest := []) ⟨hx, hb, hml, hown, hts⟩ (qaV l dC dI cyB cyI cyJ cyP a0 H.size (jaK) (jfP) (ja1) (jcp) (jbc) (jbV) (ja3) (jbH) (ja2) (jbO) (jaq) (jac) (jbI) (jbl) (jbn) (jba) (jaa) (jbA) x3 p4 0 1 hw) (cwV 3 hts gX10_few_X10_needWithin rfl rfl rfl (by decide +kernel) ⟨nbq rfl, nbq rfl⟩) ⟨qau, va_recv (q := (RX10, TX10, 19)) hK hPc (ci := 10) (q0 := 0) rfl rfl, qbk hPc hK hDc hNw hY hS hFc⟩ rfl rfl hl.1 rfl (lv_room (nbq rfl)) (qaa qlk 3 rfl) ⟨nbq rfl, nbq rfl⟩) hS (fun q _ h => hFc q h) hFc (fun q _ h => hFc q h) (fun en ce q9 u t H1 locs ht hvm hpx hB hz1 hk1 hS hc9 hv9 hcl9 => ?_) (fun u t H1 locs ht hvm hw hB hz1 hk1 hS => ?_)
  · obtain ⟨x4, rfl⟩ : ∃ z, z = u := ⟨_, rfl⟩
    obtain ⟨hw, hP1, hK1, hD1⟩ := hB
    rw [ht] at hP1
    obtain ⟨hP, hD⟩ := qah (wr := []) (w1 := (qna a0 jaK jfP ja1 jcp jbc jbV ja3 jbH ja2 jbO jaq jac jbI jbl jbn jba jaa jbA x4)) (wn := (qna a0 jaK jfP ja1 jcp jbc jbV ja3 jbH ja2 jbO jaq jac jbI jbl jbn jba jaa jbA x4)) hP hD [0] [] hCc rfl (by decide +kernel) (by decide +kernel) rfl hk1 hFc hP1 hD1
    generalize H1 = H at hP hS hc9 ⊢
    exact vx_out (fun x hx9 => (hXs.1 x hx9).elim) hlocks hc9 hv9 hcl9 (fun t2 ht2 hal2 => ⟨(x4), trivial, ⟨hw, by rw [ht2]; exact hP, va_K.moved hal2 hK, hD⟩, hS.F ht2⟩) hS.2.2 (nbq rfl) (nbq rfl)
  obtain ⟨x4, rfl⟩ : ∃ z, z = u := ⟨_, rfl⟩
  obtain ⟨hP1, hK1, hD1⟩ := hB
  rw [ht] at hP1
  obtain ⟨hP, hD⟩ := qah (wr := []) (w1 := (qna a0 jaK jfP ja1 jcp jbc jbV ja3 jbH ja2 jbO jaq jac jbI jbl jbn jba jaa jbA x4)) (wn := (qna a0 jaK jfP ja1 jcp jbc jbV ja3 jbH ja2 jbO jaq jac jbI jbl jbn jba jaa jbA x4)) hP hD [0] [] hCc rfl (by decide +kernel) (by decide +kernel) rfl hk1 hFc hP1 hD1
  generalize H1 = H at hP hS ⊢
  refine lv_lconst (v := 0) hx hb (qaa qlk 4 rfl) (by decide) ?_
  refine lv_lstore (lv' := [(5, .long 0), (0, .ref a0), (1, .int p1), (2, .int p2), (3, .int p3), (4, .int p4)]) hx hb (qaa qlk 5 rfl) hl (by decide) rfl (fun ls hl => ?_)
  refine lv_iconst (v := 0) hx hb (qaa qlk 6 rfl) (by decide) ?_
  refine lv_istore (lv' := [(7, .int 0), (5, .long 0), (0, .ref a0), (1, .int p1), (2, .int p2), (3, .int p3), (4, .int p4)]) hx hb (qaa qlk 7 rfl) hl (by decide) rfl (fun ls hl => ?_)
  obtain ⟨n9, hw⟩ := hw
  exact qaOW dC dI cyB cyI cyJ cyP a0 jaK jfP ja1 jcp jbc jbV ja3 jbH ja2 jbO jaq jac jbI jbl jbn jba jaa jbA E Q C0 n9 _ _ _ x4 p1 p2 p3 p4 0 0 hP hD hS (lv_sub hl [3, 4, 5, 6, 1, 0] rfl) hw
theorem qaOa : (.classLink RL 13 "java/lang/IllegalArgumentException" : Cond) ∈ wsL_few := qaPx 595 (by decide +kernel)
theorem qaYg : (.codeWith yL_few cL_few 7 (some .int) [(0, 13, 16, 13)] : Cond) ∈ wsL_few := qaPx 3721 (by decide +kernel)
set_option maxHeartbeats 4000000 in
set_option maxRecDepth 100000 in
theorem qbbR (l : Launch) (dC : Nat → ClassId) (dI : Nat → Nat → Nat) (cyB cyI cyJ cyP : ClassId) (a0 a5 sz : Nat) (jaK jfP ja1 jcp jbc jbV ja3 jbH ja2 jbO jaq jac jbI jbl jbn jba jaa jbA : Value) (n5 : Nat) (jbz : Int32) (f5 : Nat → Int64) (p1 p2 p3 p4 : Int32) {Q : Int32 → Int32 → (Nat → Int64) → Prop} (hw : qaRv n5 jbz f5 p1 p2 p3 p4 Q) : Met l yL_few wsL_few ({ frames := 9, cells := 4, slots := 24, locals := 193 }) (va_Pc [.ref a0, .int p1, .int p2, .int p3, .int p4, .ref a5] (cPx l (dC, dI) (kT cyB cyI cyJ cyP) (qZR a0 jaK jfP ja1 jcp jbc jbV ja3 jbH ja2 jbO jaq jac jbI jbl jbn jba jaa jbA jbz a5 cyJ n5 f5) sz)) (va_Qi (fun (r : Int32) (u : Int32 × (Nat → Int64)) => Q r u.1 u.2) (cB (dC, dI) (kT cyB cyI cyJ cyP) (va_A (qZR a0 jaK jfP ja1 jcp jbc jbV ja3 jbH ja2 jbO jaq jac jbI jbl jbn jba jaa jbA jbz a5 cyJ n5 f5) sz) (fun u : Int32 × (Nat → Int64) => ((qZR a0 jaK jfP ja1 jcp jbc jbV ja3 jbH ja2 jbO jaq jac jbI jbl jbn jba jaa jbA u.1 a5 cyJ n5 u.2) : va_W))) (va_A (qZR a0 jaK jfP ja1 jcp jbc jbV ja3 jbH ja2 jbO jaq jac jbI jbl jbn jba jaa jbA jbz a5 cyJ n5 f5) sz)) 4 24 (va_A (qZR a0 jaK jfP ja1 jcp jbc jbV ja3 jbH ja2 jbO jaq jac jbI jbl jbn jba jaa jbA jbz a5 cyJ n5 f5) sz) := by
  refine va_MetW (cc := cL_few) (maxL := 7) (ret := (some .int)) (by decide) rfl ?_
  intro p e s m args below meth c s₁ B hml hv
  obtain ⟨rfl, hsz, hP, hK, hD0, hNw, hXl, hXu, hXn, hXt⟩ := hv
  have hx := B.exec
  have hb := B.bytes
  have hr := B.returns
  have hts := atoms_spec (ws := wsL_few) B.pre
  have hown : s.vm.findClass RL = some m.cls := findClass_of_methodNamed B.named
  have hlocks := B.notSynchronized
  subst hsz
  have hD := hD0.self (sz := s.heap.size)
  generalize hAe : va_A (qZR a0 jaK jfP ja1 jcp jbc jbV ja3 jbH ja2 jbO jaq jac jbI jbl jbn jba jaa jbA jbz a5 cyJ n5 f5) s.heap.size = A at hD hXu hXn ⊢
  have hA : ∀ q : Nat, s.heap.size ≤ q → A q := fun q h => by rw [← hAe]; exact Or.inr h
  have hS : va_S A s.heap s.heap [] := va_S.rf
  have hP : va_P (dC, dI) vwCl (qZR a0 jaK jfP ja1 jcp jbc jbV ja3 jbH ja2 jbO jaq jac jbI jbl jbn jba jaa jbA jbz a5 cyJ n5 f5) s.heap := hP
  have hl := lv_entry ([.ref a0, .int p1, .int p2, .int p3, .int p4, .ref a5]) (n := 7) (nbq rfl)
  rw [lg_entry_eq]
  generalize (lg_sl ([.ref a0, .int p1, .int p2, .int p3, .int p4, .ref a5]) ++ List.replicate (7 - (lg_sl ([.ref a0, .int p1, .int p2, .int p3, .int p4, .ref a5])).length) Slot.unset).toArray = ls at hl ⊢
  have hl : lv_has ls 7 [(0, .ref a0), (1, .int p1), (2, .int p2), (3, .int p3), (4, .int p4), (5, .ref a5)] := hl
  have hY : cfY l s A := ⟨hXl, hXu, hXn, hXt⟩
  have hTb := vx_table (x := yL_few) B (hts _ qaYg)
  clear hAe
  obtain ⟨H, hH⟩ : ∃ H, H = s.heap := ⟨_, rfl⟩
  rw [← hH] at hP ⊢
  have hS : va_S A s.heap H [] := by rw [hH]; exact va_S.rf
  have hS := hS
  refine lv_aload hx hb (qaa qs3 0 rfl) (lv_at hl 5 rfl) ?_
  refine lv_iconst (v := 0) hx hb (qaa qs3 1 rfl) (by decide) ?_
  refine lv_aload_n hx hb (qaa qs3 2 rfl) rfl (lv_at hl 0 rfl) ?_
  refine lv_iload_n hx hb (qaa qs3 3 rfl) rfl (lv_at hl 1 rfl) ?_
  refine lv_iload_n hx hb (qaa qs3 4 rfl) rfl (lv_at hl 2 rfl) ?_
  refine lv_iload_n hx hb (qaa qs3 5 rfl) rfl (lv_at hl 3 rfl) ?_
  refine lv_iload hx hb (qaa qs3 6 rfl) (lv_at hl 4 rfl) ?_
  obtain ⟨hCc, hPc, hDc, hFc⟩ := qac (ws' := (qna a0 jaK jfP ja1 jcp jbc jbV ja3 jbH ja2 jbO jaq jac jbI jbl jbn jba jaa jbA jbz)) hP hD hS hA [0] (by decide +kernel) rfl
  refine vx_calll (vx_runV (As := [.int p1, .int p2, .int p3, .int p4]) (rest := [.int 0, .ref a5]) ⟨hx, hb, hml, hown, hts⟩ (qa2u l dC dI cyB cyI cyJ cyP a0 H.size (jaK) (jfP) (ja1) (jcp) (jbc) (jbV) (ja3) (jbH) (ja2) (jbO) (jaq) (jac) (jbI) (jbl) (jbn) (jba) (jaa) (jbA) jbz p1 p2 p3 p4 hw) (cwV 4 hts gL_few_X10_few rfl rfl rfl (by decide +kernel) ⟨nbq rfl, nbq rfl⟩) ⟨qau, va_recv (q := (RX10, TX10, 19)) hK hPc (ci := 10) (q0 := 0) rfl rfl, qbk hPc hK hDc hNw hY hS hFc⟩ rfl rfl hl.1 rfl (lv_room (nbq rfl)) (qaa qs3 7 rfl) ⟨nbq rfl, nbq rfl⟩) hS (fun q _ h => hFc q h) hFc (fun q _ h => hFc q h) (fun en ce qx9 u t H1 locs ht hvm hpx hB hz1 hk1 hS hc9 hv9 hcl9 => ?_) (fun r2 u t H1 locs ht hvm hw hB hz1 hk1 hS => ?_)
  · obtain ⟨x1, rfl⟩ : ∃ z, z = u := ⟨_, rfl⟩
    obtain ⟨hw, hP1, hK1, hD1⟩ := hB
    rw [ht] at hP1
    obtain ⟨hP, hD⟩ := qad (wr := [(a5, .inl (cyJ, n5, .inr (.inl f5)))]) (w1 := (qna a0 jaK jfP ja1 jcp jbc jbV ja3 jbH ja2 jbO jaq jac jbI jbl jbn jba jaa jbA x1)) (wn := (qZR a0 jaK jfP ja1 jcp jbc jbV ja3 jbH ja2 jbO jaq jac jbI jbl jbn jba jaa jbA x1 a5 cyJ n5 f5)) hP hD [0] [1] [1, 0] hCc rfl (by decide +kernel) (by decide +kernel) (by decide +kernel) rfl hk1 hFc hP1 hD1
    generalize H1 = H at hP hS hc9 ⊢
    obtain ⟨rfl, hw⟩ := hw
    refine vx_catch (own := RL) (name := "java/lang/IllegalArgumentException") hown [] ⟨0, 13, 16, 13⟩ [] (hTb.trans rfl) (fun z hz => nomatch hz) (by decide) (by decide) (hts _ qaOa) (va_Nw.use rfl (hY.2.2.2.1.2 _ (List.mem_of_getElem? (i := 0) rfl))) hc9 hv9 hcl9 ?_
    refine lv_astore (lv' := [(6, .ref qx9), (0, .ref a0), (1, .int p1), (2, .int p2), (3, .int p3), (4, .int p4), (5, .ref a5)]) hx hb (qaa qs3 10 rfl) hl (by decide) rfl (fun ls hl => ?_)
    refine lv_iconst (v := 1) hx hb (qaa qs3 11 rfl) (by decide) ?_
    exact (W.widen (k := 4) (n := 24) (nbq rfl) (nbq rfl) (W.iret (v := 1) hx hb hr (fun t ht hW => ⟨⟨1, (x1, f5), rfl, hw, by rw [ht]; exact hP, va_K.moved hW.alike hK, hD⟩, hS.F ht⟩) hS.2.2 (qaa qs3 12 rfl)))
  obtain ⟨x1, rfl⟩ : ∃ z, z = u := ⟨_, rfl⟩
  obtain ⟨hP1, hK1, hD1⟩ := hB
  rw [ht] at hP1
  obtain ⟨hP, hD⟩ := va_join (wr := [(a5, .inl (cyJ, n5, .inr (.inl f5)))]) (w1 := (qna a0 jaK jfP ja1 jcp jbc jbV ja3 jbH ja2 jbO jaq jac jbI jbl jbn jba jaa jbA x1)) hP hD [0] [1] rfl rfl (by decide) (by decide) hk1 hFc hP1 hD1
  have hP : va_P (dC, dI) vwCl (qZR a0 jaK jfP ja1 jcp jbc jbV ja3 jbH ja2 jbO jaq jac jbI jbl jbn jba jaa jbA x1 a5 cyJ n5 f5) H1 := hP.sub [1, 0] rfl
  have hD : va_D A (qZR a0 jaK jfP ja1 jcp jbc jbV ja3 jbH ja2 jbO jaq jac jbI jbl jbn jba jaa jbA x1 a5 cyJ n5 f5) := hD.sub [1, 0] (by decide) rfl
  generalize H1 = H at hP hS ⊢
  obtain ⟨hi9, hw⟩ := hw
  refine va_last hx hb hK hP hD hS 1 2 rfl rfl hi9 (qaa qs3 8 rfl) (fun H locs hP hD hS => ?_)
  obtain ⟨f3, ef3⟩ : ∃ y : Nat → Int64, y = vp_updL f5 (0 : Int32).toNatClampNeg r2 := ⟨_, rfl⟩
  have hw := hw f3 ef3
  have hP : va_P (dC, dI) vwCl (qZR a0 jaK jfP ja1 jcp jbc jbV ja3 jbH ja2 jbO jaq jac jbI jbl jbn jba jaa jbA x1 a5 cyJ n5 f3) H := by rw [ef3]; exact hP
  have hD : va_D A (qZR a0 jaK jfP ja1 jcp jbc jbV ja3 jbH ja2 jbO jaq jac jbI jbl jbn jba jaa jbA x1 a5 cyJ n5 f3) := by rw [ef3]; exact hD
  refine lv_goto (tgt := 20) hx hb (qaa qs3 9 rfl) (by decide) ?_
  refine lv_iconst (v := 0) hx hb (qaa qs3 13 rfl) (by decide) ?_
  exact (W.widen (k := 4) (n := 24) (nbq rfl) (nbq rfl) (W.iret (v := 0) hx hb hr (fun t ht hW => ⟨⟨0, (x1, f3), rfl, hw, by rw [ht]; exact hP, va_K.moved hW.alike hK, hD⟩, hS.F ht⟩) hS.2.2 (qaa qs3 14 rfl)))
theorem qPy : ∀ w ∈ u_ws RX3 TX3 11, w ∈ wsX3_seatedThen := uiM qQU euX3 (by decide +kernel)
theorem q6X : (.fieldLink RX3 15 "MarchHares$Fitting" "sits" "[I" : Cond) ∈ wsX3_seatedThen := qQU 391 (by decide +kernel)
theorem q9t : (.fieldLink RX3 9 "MarchHares$Fitting" "seated" "[I" : Cond) ∈ wsX3_seatedThen := qQU 390 (by decide +kernel)
set_option maxHeartbeats 4000000 in
set_option maxRecDepth 100000 in
theorem qRc {p : Program} {l : Launch} {e : Env} {s : State} {m : MethodId} {args : Array Value} {below : List Frame} {meth : Method} {c : Code} {A : Nat → Prop} (dC : Nat → ClassId) (dI : Nat → Nat → Nat) (cyB cyI cyJ cyP : ClassId) (a0 jhX ji2 : Nat) (jlU jmo ja4 ja0 jaO jmb jmc jkn jjZ : Value) (jiL jjH : NI) (Q : Int32 → Prop) (C0 : cfx p s m args meth c cX3_seatedThen (some .int) wsX3_seatedThen RX3 4 A (dC, dI) (kT cyB cyI cyJ cyP)) : ∀ (H : Heap) (locs : List Loc) (ls : Array Slot) (l1 l3 s0 s1 : Int32), va_P (dC, dI) vwCl (q7R a0 jhX ji2 jlU jmo ja4 ja0 jaO jmb jmc jkn jjZ jhX cyI jiL ji2 cyI jjH) H → va_D A (q7R a0 jhX ji2 jlU jmo ja4 ja0 jaO jmb jmc jkn jjZ jhX cyI jiL ji2 cyI jjH) → va_S A s.heap H locs → lv_has ls 4 [(1, .int l1), (3, .int l3)] → qFM jiL jjH Q l1 l3 s0 s1 → W p l e (headSpec wsX3_seatedThen ({ frames := 0, cells := 0, slots := 0, locals := 0 })).room s m args below meth c H locs 0 0 (MQ below (va_Qi (fun (r : Int32) (_ : Unit) => Q r ) (cB (dC, dI) (kT cyB cyI cyJ cyP) A (fun u : Unit => ((q7R a0 jhX ji2 jlU jmo ja4 ja0 jaO jmb jmc jkn jjZ jhX cyI jiL ji2 cyI jjH) : va_W))) A) args s 0 0 A) (F0 m 21 ls [.int s1, .int s0]) := by
  obtain ⟨hx, hb, hr, hts, hown, hlocks, hml, hA, hK, hNw⟩ := id C0
  intro H locs ls l1 l3 s0 s1 hP hD hS hl hw
  refine lv_isub hx hb (qaa qdw 13 rfl) ?_
  refine lv_iload_n hx hb (qaa qdw 14 rfl) rfl (lv_at hl 1 rfl) ?_
  refine lv_iload_n hx hb (qaa qdw 15 rfl) rfl (lv_at hl 0 rfl) ?_
  refine lv_icmp_ne (tgt := 31) hx hb (qaa qpd 0 rfl) (by decide) (fun c4 => ?_) (fun c4 => ?_)
  · have hw := hw.1 c4
    refine lv_iconst (v := 0) hx hb (qaa qpd 3 rfl) (by decide) ?_
    refine lv_iadd hx hb (qaa qpd 4 rfl) ?_
    exact ((W.iret (v := ((s0 - s1) + 0)) hx hb hr (fun t ht hW => ⟨⟨((s0 - s1) + 0), (), rfl, hw, by rw [ht]; exact hP, va_K.moved hW.alike hK, hD⟩, hS.F ht⟩) hS.2.2 (qaa qpd 5 rfl)))
  · have hw := hw.2 c4
    refine lv_iconst (v := 1) hx hb (qaa qpd 1 rfl) (by decide) ?_
    refine lv_goto (tgt := 32) hx hb (qaa qpd 2 rfl) (by decide) ?_
    refine lv_iadd hx hb (qaa qpd 4 rfl) ?_
    exact ((W.iret (v := ((s0 - s1) + 1)) hx hb hr (fun t ht hW => ⟨⟨((s0 - s1) + 1), (), rfl, hw, by rw [ht]; exact hP, va_K.moved hW.alike hK, hD⟩, hS.F ht⟩) hS.2.2 (qaa qpd 5 rfl)))
set_option maxHeartbeats 4000000 in
set_option maxRecDepth 100000 in
theorem qZV (l : Launch) (dC : Nat → ClassId) (dI : Nat → Nat → Nat) (cyB cyI cyJ cyP : ClassId) (a0 jhX ji2 sz : Nat) (jlU jmo ja4 ja0 jaO jmb jmc jkn jjZ : Value) (jiL jjH : NI) (p1 p2 p3 : Int32) {Q : Int32 → Prop} (hw : qEK jiL jjH p1 p2 p3 Q) : Met l yX3_seatedThen wsX3_seatedThen ({ frames := 0, cells := 0, slots := 0, locals := 0 }) (va_Pc [.ref a0, .int p1, .int p2, .int p3] (cPc (dC, dI) (kT cyB cyI cyJ cyP) (q7R a0 jhX ji2 jlU jmo ja4 ja0 jaO jmb jmc jkn jjZ jhX cyI jiL ji2 cyI jjH) sz)) (va_Qi (fun (r : Int32) (_ : Unit) => Q r ) (cB (dC, dI) (kT cyB cyI cyJ cyP) (va_A (q7R a0 jhX ji2 jlU jmo ja4 ja0 jaO jmb jmc jkn jjZ jhX cyI jiL ji2 cyI jjH) sz) (fun u : Unit => ((q7R a0 jhX ji2 jlU jmo ja4 ja0 jaO jmb jmc jkn jjZ jhX cyI jiL ji2 cyI jjH) : va_W))) (va_A (q7R a0 jhX ji2 jlU jmo ja4 ja0 jaO jmb jmc jkn jjZ jhX cyI jiL ji2 cyI jjH) sz)) 0 0 (va_A (q7R a0 jhX ji2 jlU jmo ja4 ja0 jaO jmb jmc jkn jjZ jhX cyI jiL ji2 cyI jjH) sz) := by
  refine Met.ofW (cc := cX3_seatedThen) (maxL := 4) (ret := (some .int)) (by decide) rfl ?_
  intro p e s m args below meth c s₁ B hml hv
  obtain ⟨rfl, hsz, hP, hK, hD0, hNw⟩ := hv
  have hx := B.exec
  have hb := B.bytes
  have hr := B.returns
  have hts := atoms_spec (ws := wsX3_seatedThen) B.pre
  have hown : s.vm.findClass RX3 = some m.cls := findClass_of_methodNamed B.named
  have hlocks := B.notSynchronized
  subst hsz
  have hD := hD0.self (sz := s.heap.size)
  generalize hAe : va_A (q7R a0 jhX ji2 jlU jmo ja4 ja0 jaO jmb jmc jkn jjZ jhX cyI jiL ji2 cyI jjH) s.heap.size = A at hD ⊢
  have hA : ∀ q : Nat, s.heap.size ≤ q → A q := fun q h => by rw [← hAe]; exact Or.inr h
  have hS : va_S A s.heap s.heap [] := va_S.rf
  have hP : va_P (dC, dI) vwCl (q7R a0 jhX ji2 jlU jmo ja4 ja0 jaO jmb jmc jkn jjZ jhX cyI jiL ji2 cyI jjH) s.heap := hP
  have hl := lv_entry ([.ref a0, .int p1, .int p2, .int p3]) (n := 4) (nbq rfl)
  rw [lg_entry_eq]
  generalize (lg_sl ([.ref a0, .int p1, .int p2, .int p3]) ++ List.replicate (4 - (lg_sl ([.ref a0, .int p1, .int p2, .int p3])).length) Slot.unset).toArray = ls at hl ⊢
  have hl : lv_has ls 4 [(0, .ref a0), (1, .int p1), (2, .int p2), (3, .int p3)] := hl
  have C0 : cfx p s m _ meth c cX3_seatedThen (some .int) wsX3_seatedThen RX3 4 A (dC, dI) (kT cyB cyI cyJ cyP) := ⟨hx, hb, hr, hts, hown, hlocks, hml, hA, hK, hNw⟩
  clear hAe
  obtain ⟨H, hH⟩ : ∃ H, H = s.heap := ⟨_, rfl⟩
  rw [← hH] at hP ⊢
  have hS : va_S A s.heap H [] := by rw [hH]; exact va_S.rf
  have hS := hS
  refine lv_aload_n hx hb (qaa qdw 0 rfl) rfl (lv_at hl 0 rfl) ?_
  refine va_get (D := (dC, dI)) (ci := 3) (v := .ref jhX) (C := RX3) (T := TX3) (N := 11) hx hb hts qPy hown hK hP 0 rfl rfl 0 (by decide) (hts _ q9t) (fun _ h9 => h9) rfl (qaa qdw 1 rfl) ?_
  refine lv_iload_n hx hb (qaa qdw 2 rfl) rfl (lv_at hl 1 rfl) ?_
  obtain ⟨hi9, hw⟩ := hw
  refine va_iald hx hb hK hP 1 1 rfl rfl hi9 (qaa qdw 3 rfl) ?_
  refine lv_topi (fun x1 ex1 => ?_)
  have hw := hw x1 ex1
  refine lv_aload_n hx hb (qaa qdw 4 rfl) rfl (lv_at hl 0 rfl) ?_
  refine va_get (D := (dC, dI)) (ci := 3) (v := .ref ji2) (C := RX3) (T := TX3) (N := 11) hx hb hts qPy hown hK hP 0 rfl rfl 1 (by decide) (hts _ q6X) (fun _ h9 => h9) rfl (qaa qdw 5 rfl) ?_
  refine lv_iload_n hx hb (qaa qdw 6 rfl) rfl (lv_at hl 2 rfl) ?_
  obtain ⟨hi9, hw⟩ := hw
  refine va_iald hx hb hK hP 2 1 rfl rfl hi9 (qaa qdw 7 rfl) ?_
  refine lv_topi (fun x2 ex2 => ?_)
  have hw := hw x2 ex2
  refine lv_iload_n hx hb (qaa qdw 8 rfl) rfl (lv_at hl 1 rfl) ?_
  refine lv_icmp_ne (tgt := 20) hx hb (qaa qdw 9 rfl) (by decide) (fun c3 => ?_) (fun c3 => ?_)
  · have hw := hw.1 c3
    refine lv_iconst (v := 0) hx hb (qaa qdw 12 rfl) (by decide) ?_
    exact qRc dC dI cyB cyI cyJ cyP a0 jhX ji2 jlU jmo ja4 ja0 jaO jmb jmc jkn jjZ jiL jjH Q C0 _ _ _ p1 p3 x1 0 hP hD hS (lv_sub hl [1, 3] rfl) hw
  · have hw := hw.2 c3
    refine lv_iconst (v := 1) hx hb (qaa qdw 10 rfl) (by decide) ?_
    refine lv_goto (tgt := 21) hx hb (qaa qdw 11 rfl) (by decide) ?_
    exact qRc dC dI cyB cyI cyJ cyP a0 jhX ji2 jlU jmo ja4 ja0 jaO jmb jmc jkn jjZ jiL jjH Q C0 _ _ _ p1 p3 x1 1 hP hD hS (lv_sub hl [1, 3] rfl) hw
theorem q0J : ∀ w ∈ u_ws RX0 TX0 2, w ∈ wsX0_agrees := uiM qawh euX0 (by decide +kernel)
theorem q1x : (.fieldLink RX0 9 "MarchHares$Book" "seen" "[I" : Cond) ∈ wsX0_agrees := qawh 257 (by decide +kernel)
set_option maxHeartbeats 4000000 in
set_option maxRecDepth 100000 in
theorem q3K {p : Program} {l : Launch} {e : Env} {s : State} {m : MethodId} {args : Array Value} {below : List Frame} {meth : Method} {c : Code} {A : Nat → Prop} (dC : Nat → ClassId) (dI : Nat → Nat → Nat) (cyB cyI cyJ cyP : ClassId) (a0 jjj : Nat) (jmb : Value) (jkG : NI) (Q : Int32 → Prop) (C0 : cfx p s m args meth c cX0_agrees (some .boolean) wsX0_agrees RX0 3 A (dC, dI) (kT cyB cyI cyJ cyP)) : ∀ (H : Heap) (locs : List Loc) (ls : Array Slot) , va_P (dC, dI) vwCl (qVW a0 jjj jmb jjj cyI jkG) H → va_D A (qVW a0 jjj jmb jjj cyI jkG) → va_S A s.heap H locs → lv_has ls 3 [] → qQS jkG Q → W p l e (headSpec wsX0_agrees ({ frames := 0, cells := 0, slots := 0, locals := 0 })).room s m args below meth c H locs 0 0 (MQ below (va_Qi (fun (r : Int32) (_ : Unit) => Q r ) (cB (dC, dI) (kT cyB cyI cyJ cyP) A (fun u : Unit => ((qVW a0 jjj jmb jjj cyI jkG) : va_W))) A) args s 0 0 A) (F0 m 20 ls []) := by
  obtain ⟨hx, hb, hr, hts, hown, hlocks, hml, hA, hK, hNw⟩ := id C0
  intro H locs ls hP hD hS hl hw
  refine lv_iconst (v := 1) hx hb (qaa qh6 12 rfl) (by decide) ?_
  refine lv_goto (tgt := 25) hx hb (qaa qh6 13 rfl) (by decide) ?_
  exact ((W.zret (v := 1) hx hb hr rfl (fun t ht hW => ⟨⟨1, (), rfl, hw, by rw [ht]; exact hP, va_K.moved hW.alike hK, hD⟩, hS.F ht⟩) hS.2.2 (qaa qh6 15 rfl)))
set_option maxHeartbeats 4000000 in
set_option maxRecDepth 100000 in
theorem qaV3 (l : Launch) (dC : Nat → ClassId) (dI : Nat → Nat → Nat) (cyB cyI cyJ cyP : ClassId) (a0 jjj sz : Nat) (jmb : Value) (jkG : NI) (p1 p2 : Int32) {Q : Int32 → Prop} (hw : q2w jkG p1 p2 Q) : Met l yX0_agrees wsX0_agrees ({ frames := 0, cells := 0, slots := 0, locals := 0 }) (va_Pc [.ref a0, .int p1, .int p2] (cPc (dC, dI) (kT cyB cyI cyJ cyP) (qVW a0 jjj jmb jjj cyI jkG) sz)) (va_Qi (fun (r : Int32) (_ : Unit) => Q r ) (cB (dC, dI) (kT cyB cyI cyJ cyP) (va_A (qVW a0 jjj jmb jjj cyI jkG) sz) (fun u : Unit => ((qVW a0 jjj jmb jjj cyI jkG) : va_W))) (va_A (qVW a0 jjj jmb jjj cyI jkG) sz)) 0 0 (va_A (qVW a0 jjj jmb jjj cyI jkG) sz) := by
  refine Met.ofW (cc := cX0_agrees) (maxL := 3) (ret := (some .boolean)) (by decide) rfl ?_
  intro p e s m args below meth c s₁ B hml hv
  obtain ⟨rfl, hsz, hP, hK, hD0, hNw⟩ := hv
  have hx := B.exec
  have hb := B.bytes
  have hr := B.returns
  have hts := atoms_spec (ws := wsX0_agrees) B.pre
  have hown : s.vm.findClass RX0 = some m.cls := findClass_of_methodNamed B.named
  have hlocks := B.notSynchronized
  subst hsz
  have hD := hD0.self (sz := s.heap.size)
  generalize hAe : va_A (qVW a0 jjj jmb jjj cyI jkG) s.heap.size = A at hD ⊢
  have hA : ∀ q : Nat, s.heap.size ≤ q → A q := fun q h => by rw [← hAe]; exact Or.inr h
  have hS : va_S A s.heap s.heap [] := va_S.rf
  have hP : va_P (dC, dI) vwCl (qVW a0 jjj jmb jjj cyI jkG) s.heap := hP
  have hl := lv_entry ([.ref a0, .int p1, .int p2]) (n := 3) (nbq rfl)
  rw [lg_entry_eq]
  generalize (lg_sl ([.ref a0, .int p1, .int p2]) ++ List.replicate (3 - (lg_sl ([.ref a0, .int p1, .int p2])).length) Slot.unset).toArray = ls at hl ⊢
  have hl : lv_has ls 3 [(0, .ref a0), (1, .int p1), (2, .int p2)] := hl
  have C0 : cfx p s m _ meth c cX0_agrees (some .boolean) wsX0_agrees RX0 3 A (dC, dI) (kT cyB cyI cyJ cyP) := ⟨hx, hb, hr, hts, hown, hlocks, hml, hA, hK, hNw⟩
  clear hAe
  obtain ⟨H, hH⟩ : ∃ H, H = s.heap := ⟨_, rfl⟩
  rw [← hH] at hP ⊢
  have hS : va_S A s.heap H [] := by rw [hH]; exact va_S.rf
  have hS := hS
  refine lv_aload_n hx hb (qaa qh6 0 rfl) rfl (lv_at hl 0 rfl) ?_
  refine va_get (D := (dC, dI)) (ci := 0) (v := .ref jjj) (C := RX0) (T := TX0) (N := 2) hx hb hts q0J hown hK hP 0 rfl rfl 0 (by decide) (hts _ q1x) (fun _ h9 => h9) rfl (qaa qh6 1 rfl) ?_
  refine lv_iload_n hx hb (qaa qh6 2 rfl) rfl (lv_at hl 1 rfl) ?_
  obtain ⟨hi9, hw⟩ := hw
  refine va_iald hx hb hK hP 1 1 rfl rfl hi9 (qaa qh6 3 rfl) ?_
  refine lv_topi (fun x1 ex1 => ?_)
  have hw := hw x1 ex1
  refine lv_iconst (v := (-1)) hx hb (qaa qh6 4 rfl) (by decide) ?_
  refine lv_icmp_eq (tgt := 20) hx hb (qaa qh6 5 rfl) (by decide) (fun c2 => ?_) (fun c2 => ?_)
  · have hw := hw.1 c2
    exact q3K dC dI cyB cyI cyJ cyP a0 jjj jmb jkG Q C0 _ _ _ hP hD hS (lv_sub hl [] rfl) hw
  · have hw := hw.2 c2
    refine lv_aload_n hx hb (qaa qh6 6 rfl) rfl (lv_at hl 0 rfl) ?_
    refine va_get (D := (dC, dI)) (ci := 0) (v := .ref jjj) (C := RX0) (T := TX0) (N := 2) hx hb hts q0J hown hK hP 0 rfl rfl 0 (by decide) (hts _ q1x) (fun _ h9 => h9) rfl (qaa qh6 7 rfl) ?_
    refine lv_iload_n hx hb (qaa qh6 8 rfl) rfl (lv_at hl 1 rfl) ?_
    obtain ⟨hi9, hw⟩ := hw
    refine va_iald hx hb hK hP 1 1 rfl rfl hi9 (qaa qh6 9 rfl) ?_
    refine lv_topi (fun x3 ex3 => ?_)
    have hw := hw x3 ex3
    refine lv_iload_n hx hb (qaa qh6 10 rfl) rfl (lv_at hl 2 rfl) ?_
    refine lv_icmp_ne (tgt := 24) hx hb (qaa qh6 11 rfl) (by decide) (fun c4 => ?_) (fun c4 => ?_)
    · have hw := hw.1 c4
      refine lv_iconst (v := 0) hx hb (qaa qh6 14 rfl) (by decide) ?_
      exact ((W.zret (v := 0) hx hb hr rfl (fun t ht hW => ⟨⟨0, (), rfl, hw, by rw [ht]; exact hP, va_K.moved hW.alike hK, hD⟩, hS.F ht⟩) hS.2.2 (qaa qh6 15 rfl)))
    · have hw := hw.2 c4
      exact q3K dC dI cyB cyI cyJ cyP a0 jjj jmb jkG Q C0 _ _ _ hP hD hS (lv_sub hl [] rfl) hw
theorem qKh : ∀ w ∈ u_ws RX3 TX3 11, w ∈ wsX3_allRight := uiM qzh euX3 (by decide +kernel)
theorem qahl : (.fieldLink RX3 40 "MarchHares$Fitting" "forms" "I" : Cond) ∈ wsX3_allRight := qzh 3470 (by decide +kernel)
theorem qSr : (.fieldLink RX3 41 "MarchHares$Fitting" "book" "LMarchHares$Book;" : Cond) ∈ wsX3_allRight := qzh 3471 (by decide +kernel)
set_option maxHeartbeats 4000000 in
set_option maxRecDepth 100000 in
theorem qaqF {p : Program} {l : Launch} {e : Env} {s : State} {m : MethodId} {args : Array Value} {below : List Frame} {meth : Method} {c : Code} {A : Nat → Prop} (dC : Nat → ClassId) (dI : Nat → Nat → Nat) (cyB cyI cyJ cyP : ClassId) (a0 jdj jhX ji2 jj4 : Nat) (jlU jmo ja4 jmb jmc jkn jjZ jlV : Value) (jaN : Int32) (jiL jjH jkE : NI) (Q : Int32 → Prop) (C0 : cfx p s m args meth c cX3_allRight (some .boolean) wsX3_allRight RX3 4 A (dC, dI) (kT cyB cyI cyJ cyP)) : ∀ (n : Nat) (H : Heap) (locs : List Loc) (ls : Array Slot) (l1 l2 l3 : Int32), va_P (dC, dI) vwCl (qZB a0 jhX ji2 jlU jmo ja4 jaN jdj jmb jmc jkn jjZ jhX cyI jiL ji2 cyI jjH jdj jj4 jlV jj4 cyI jkE) H → va_D A (qZB a0 jhX ji2 jlU jmo ja4 jaN jdj jmb jmc jkn jjZ jhX cyI jiL ji2 cyI jjH jdj jj4 jlV jj4 cyI jkE) → va_S A s.heap H locs → lv_has ls 4 [(0, .ref a0), (1, .int l1), (2, .int l2), (3, .int l3)] → qER jaN jiL jjH jkE Q n l1 l2 l3 → W p l e (headSpec wsX3_allRight ({ frames := 1, cells := 0, slots := 0, locals := 23 })).room s m args below meth c H locs 0 0 (MQ below (va_Qi (fun (r : Int32) (_ : Unit) => Q r ) (cB (dC, dI) (kT cyB cyI cyJ cyP) A (fun u : Unit => ((qZB a0 jhX ji2 jlU jmo ja4 jaN jdj jmb jmc jkn jjZ jhX cyI jiL ji2 cyI jjH jdj jj4 jlV jj4 cyI jkE) : va_W))) A) args s 0 0 A) (F0 m 2 ls []) := by
  obtain ⟨hx, hb, hr, hts, hown, hlocks, hml, hA, hK, hNw⟩ := id C0
  intro n
  induction n with
  | zero => intro H locs ls l1 l2 l3 hP hD hS hl hw; exact False.elim hw
  | succ n ih =>
    intro H locs ls l1 l2 l3 hP hD hS hl hw
    refine lv_iload_n hx hb (qaa qf2 2 rfl) rfl (lv_at hl 3 rfl) ?_
    refine lv_aload_n hx hb (qaa qf2 3 rfl) rfl (lv_at hl 0 rfl) ?_
    refine va_get (D := (dC, dI)) (ci := 3) (v := .int jaN) (C := RX3) (T := TX3) (N := 11) hx hb hts qKh hown hK hP 0 rfl rfl 5 (by decide) (hts _ qahl) (fun _ h9 => h9) rfl (qaa qf2 4 rfl) ?_
    refine lv_icmp_ge (tgt := 43) hx hb (qaa qf2 5 rfl) (by decide) (fun c1 => ?_) (fun c1 => ?_)
    · have hw := hw.1 c1
      refine lv_iconst (v := 1) hx hb (qaa qpD 7 rfl) (by decide) ?_
      exact ((W.zret (v := 1) hx hb hr rfl (fun t ht hW => ⟨⟨1, (), rfl, hw, by rw [ht]; exact hP, va_K.moved hW.alike hK, hD⟩, hS.F ht⟩) hS.2.2 (qaa qpD 8 rfl)))
    · have hw := hw.2 c1
      refine lv_aload_n hx hb (qaa qf2 6 rfl) rfl (lv_at hl 0 rfl) ?_
      refine va_get (D := (dC, dI)) (ci := 3) (v := .ref jdj) (C := RX3) (T := TX3) (N := 11) hx hb hts qKh hown hK hP 0 rfl rfl 6 (by decide) (hts _ qSr) (fun _ h9 => h9) rfl (qaa qf2 7 rfl) ?_
      refine lv_ifnull hx hb (qaa qf2 8 rfl) ?_
      refine lv_aload_n hx hb (qaa qf2 9 rfl) rfl (lv_at hl 0 rfl) ?_
      refine va_get (D := (dC, dI)) (ci := 3) (v := .ref jdj) (C := RX3) (T := TX3) (N := 11) hx hb hts qKh hown hK hP 0 rfl rfl 6 (by decide) (hts _ qSr) (fun _ h9 => h9) rfl (qaa qf2 10 rfl) ?_
      refine lv_iload_n hx hb (qaa qf2 11 rfl) rfl (lv_at hl 3 rfl) ?_
      refine lv_aload_n hx hb (qaa qf2 12 rfl) rfl (lv_at hl 0 rfl) ?_
      refine lv_iload_n hx hb (qaa qf2 13 rfl) rfl (lv_at hl 3 rfl) ?_
      refine lv_iload_n hx hb (qaa qf2 14 rfl) rfl (lv_at hl 1 rfl) ?_
      refine lv_iload_n hx hb (qaa qf2 15 rfl) rfl (lv_at hl 2 rfl) ?_
      obtain ⟨hCc, hPc, hDc, hFc⟩ := qac (ws' := (qaWl a0 jhX ji2 jlU jmo ja4 jaN jdj jmb jmc jkn jjZ jhX cyI jiL ji2 cyI jjH)) hP hD hS hA [0, 1, 2] (by decide +kernel) rfl
      refine va_calli (va_runV (As := [.int l3, .int l1, .int l2]) (rest := [.int l3, .ref jdj]) ⟨hx, hb, hml, hown, hts⟩ (qZV l dC dI cyB cyI cyJ cyP a0 jhX ji2 H.size (jlU) (jmo) (ja4) (.int jaN) (.ref jdj) (jmb) (jmc) (jkn) (jjZ) jiL jjH l3 l1 l2 hw) (cwV 3 hts gX3_allRight_X3_seatedThen rfl rfl rfl (by decide +kernel) ⟨nbq rfl, nbq rfl⟩) ⟨qab, va_recv (q := (RX3, TX3, 11)) hK hPc (ci := 3) (q0 := 0) rfl rfl, qae hPc hK hDc hNw⟩ rfl rfl hl.1 rfl (lv_room (nbq rfl)) (qaa qpD 0 rfl) ⟨nbq rfl, nbq rfl⟩) hS (fun q _ h => hFc q h) hFc (fun r2 u t H1 locs ht hvm hw hB hz1 hk1 hS => ?_)
      obtain ⟨hP1, hK1, hD1⟩ := hB
      rw [ht] at hP1
      obtain ⟨hP, hD⟩ := qad (wr := (qVW jdj jj4 jlV jj4 cyI jkE)) (w1 := (qaWl a0 jhX ji2 jlU jmo ja4 jaN jdj jmb jmc jkn jjZ jhX cyI jiL ji2 cyI jjH)) (wn := (qZB a0 jhX ji2 jlU jmo ja4 jaN jdj jmb jmc jkn jjZ jhX cyI jiL ji2 cyI jjH jdj jj4 jlV jj4 cyI jkE)) hP hD [0, 1, 2] [3, 4] [2, 3, 4, 0, 1] hCc rfl (by decide +kernel) (by decide +kernel) (by decide +kernel) rfl hk1 hFc hP1 hD1
      generalize H1 = H at hP hS ⊢
      obtain ⟨hCc, hPc, hDc, hFc⟩ := qac (ws' := (qVW jdj jj4 jlV jj4 cyI jkE)) hP hD hS hA [3, 4] (by decide +kernel) rfl
      refine va_calli (va_runV (As := [.int l3, .int r2]) (rest := []) ⟨hx, hb, hml, hown, hts⟩ (qaV3 l dC dI cyB cyI cyJ cyP jdj jj4 H.size (jlV) jkE l3 r2 hw) (cwV 2 hts gX3_allRight_X0_agrees rfl rfl rfl (by decide +kernel) ⟨nbq rfl, nbq rfl⟩) ⟨qab, va_recv (q := (RX0, TX0, 2)) hK hPc (ci := 0) (q0 := 0) rfl rfl, qae hPc hK hDc hNw⟩ rfl rfl hl.1 rfl (lv_room (nbq rfl)) (qaa qpD 1 rfl) ⟨nbq rfl, nbq rfl⟩) hS (fun q _ h => hFc q h) hFc (fun r3 u t H1 locs ht hvm hw hB hz1 hk1 hS => ?_)
      obtain ⟨hP1, hK1, hD1⟩ := hB
      rw [ht] at hP1
      obtain ⟨hP, hD⟩ := qah (wr := (qaWl a0 jhX ji2 jlU jmo ja4 jaN jdj jmb jmc jkn jjZ jhX cyI jiL ji2 cyI jjH)) (w1 := (qVW jdj jj4 jlV jj4 cyI jkE)) (wn := (qZB a0 jhX ji2 jlU jmo ja4 jaN jdj jmb jmc jkn jjZ jhX cyI jiL ji2 cyI jjH jdj jj4 jlV jj4 cyI jkE)) hP hD [3, 4] [0, 1, 2] hCc rfl (by decide +kernel) (by decide +kernel) rfl hk1 hFc hP1 hD1
      generalize H1 = H at hP hS ⊢
      refine lv_if_ne (tgt := 37) hx hb (qaa qpD 2 rfl) (by decide) (fun c4 => ?_) (fun c4 => ?_)
      · have hw := hw.1 c4
        obtain ⟨x5, ex5⟩ : ∃ y : Int32, y = l3 + 1 := ⟨_, rfl⟩
        have hw := hw x5 ex5
        refine lv_iinc (v := x5) (lv' := [(3, .int x5), (0, .ref a0), (1, .int l1), (2, .int l2)]) hx hb (qaa qpD 5 rfl) hl (k := 3) rfl (by rw [ex5]; rfl) (by decide) rfl (fun ls hl => ?_)
        refine lv_goto (tgt := 2) hx hb (qaa qpD 6 rfl) (by decide) ?_
        exact ih _ _ _ l1 l2 x5 hP hD hS (lv_sub hl [1, 2, 3, 0] rfl) hw
      · have hw := hw.2 c4
        refine lv_iconst (v := 0) hx hb (qaa qpD 3 rfl) (by decide) ?_
        exact ((W.zret (v := 0) hx hb hr rfl (fun t ht hW => ⟨⟨0, (), rfl, hw, by rw [ht]; exact hP, va_K.moved hW.alike hK, hD⟩, hS.F ht⟩) hS.2.2 (qaa qpD 4 rfl)))
set_option maxHeartbeats 4000000 in
set_option maxRecDepth 100000 in
theorem qaFv (l : Launch) (dC : Nat → ClassId) (dI : Nat → Nat → Nat) (cyB cyI cyJ cyP : ClassId) (a0 jdj jhX ji2 jj4 sz : Nat) (jlU jmo ja4 jmb jmc jkn jjZ jlV : Value) (jaN : Int32) (jiL jjH jkE : NI) (p1 p2 : Int32) {Q : Int32 → Prop} (hw : qTF jaN jiL jjH jkE p1 p2 Q) : Met l yX3_allRight wsX3_allRight ({ frames := 1, cells := 0, slots := 0, locals := 23 }) (va_Pc [.ref a0, .int p1, .int p2] (cPc (dC, dI) (kT cyB cyI cyJ cyP) (qZB a0 jhX ji2 jlU jmo ja4 jaN jdj jmb jmc jkn jjZ jhX cyI jiL ji2 cyI jjH jdj jj4 jlV jj4 cyI jkE) sz)) (va_Qi (fun (r : Int32) (_ : Unit) => Q r ) (cB (dC, dI) (kT cyB cyI cyJ cyP) (va_A (qZB a0 jhX ji2 jlU jmo ja4 jaN jdj jmb jmc jkn jjZ jhX cyI jiL ji2 cyI jjH jdj jj4 jlV jj4 cyI jkE) sz) (fun u : Unit => ((qZB a0 jhX ji2 jlU jmo ja4 jaN jdj jmb jmc jkn jjZ jhX cyI jiL ji2 cyI jjH jdj jj4 jlV jj4 cyI jkE) : va_W))) (va_A (qZB a0 jhX ji2 jlU jmo ja4 jaN jdj jmb jmc jkn jjZ jhX cyI jiL ji2 cyI jjH jdj jj4 jlV jj4 cyI jkE) sz)) 0 0 (va_A (qZB a0 jhX ji2 jlU jmo ja4 jaN jdj jmb jmc jkn jjZ jhX cyI jiL ji2 cyI jjH jdj jj4 jlV jj4 cyI jkE) sz) := by
  refine Met.ofW (cc := cX3_allRight) (maxL := 4) (ret := (some .boolean)) (by decide) rfl ?_
  intro p e s m args below meth c s₁ B hml hv
  obtain ⟨rfl, hsz, hP, hK, hD0, hNw⟩ := hv
  have hx := B.exec
  have hb := B.bytes
  have hr := B.returns
  have hts := atoms_spec (ws := wsX3_allRight) B.pre
  have hown : s.vm.findClass RX3 = some m.cls := findClass_of_methodNamed B.named
  have hlocks := B.notSynchronized
  subst hsz
  have hD := hD0.self (sz := s.heap.size)
  generalize hAe : va_A (qZB a0 jhX ji2 jlU jmo ja4 jaN jdj jmb jmc jkn jjZ jhX cyI jiL ji2 cyI jjH jdj jj4 jlV jj4 cyI jkE) s.heap.size = A at hD ⊢
  have hA : ∀ q : Nat, s.heap.size ≤ q → A q := fun q h => by rw [← hAe]; exact Or.inr h
  have hS : va_S A s.heap s.heap [] := va_S.rf
  have hP : va_P (dC, dI) vwCl (qZB a0 jhX ji2 jlU jmo ja4 jaN jdj jmb jmc jkn jjZ jhX cyI jiL ji2 cyI jjH jdj jj4 jlV jj4 cyI jkE) s.heap := hP
  have hl := lv_entry ([.ref a0, .int p1, .int p2]) (n := 4) (nbq rfl)
  rw [lg_entry_eq]
  generalize (lg_sl ([.ref a0, .int p1, .int p2]) ++ List.replicate (4 - (lg_sl ([.ref a0, .int p1, .int p2])).length) Slot.unset).toArray = ls at hl ⊢
  have hl : lv_has ls 4 [(0, .ref a0), (1, .int p1), (2, .int p2)] := hl
  have C0 : cfx p s m _ meth c cX3_allRight (some .boolean) wsX3_allRight RX3 4 A (dC, dI) (kT cyB cyI cyJ cyP) := ⟨hx, hb, hr, hts, hown, hlocks, hml, hA, hK, hNw⟩
  clear hAe
  obtain ⟨H, hH⟩ : ∃ H, H = s.heap := ⟨_, rfl⟩
  rw [← hH] at hP ⊢
  have hS : va_S A s.heap H [] := by rw [hH]; exact va_S.rf
  have hS := hS
  refine lv_iconst (v := 0) hx hb (qaa qf2 0 rfl) (by decide) ?_
  refine lv_istore_n (lv' := [(3, .int 0), (0, .ref a0), (1, .int p1), (2, .int p2)]) hx hb (qaa qf2 1 rfl) rfl hl (by decide) rfl (fun ls hl => ?_)
  obtain ⟨n9, hw⟩ := hw
  exact qaqF dC dI cyB cyI cyJ cyP a0 jdj jhX ji2 jj4 jlU jmo ja4 jmb jmc jkn jjZ jlV jaN jiL jjH jkE Q C0 n9 _ _ _ p1 p2 0 hP hD hS (lv_sub hl [1, 2, 3, 0] rfl) hw
theorem qvx : ∀ w ∈ u_ws RX3 TX3 11, w ∈ wsX3_formsFor := uiM qCQ euX3 (by decide +kernel)
theorem qafR : (.fieldLink RX3 40 "MarchHares$Fitting" "forms" "I" : Cond) ∈ wsX3_formsFor := qCQ 3470 (by decide +kernel)
theorem qH0 : (.fieldLink RX3 45 "MarchHares$Fitting" "many" "I" : Cond) ∈ wsX3_formsFor := qCQ 3472 (by decide +kernel)
theorem qRC : (.fieldLink RX3 48 "MarchHares$Fitting" "first" "I" : Cond) ∈ wsX3_formsFor := qCQ 3473 (by decide +kernel)
set_option maxHeartbeats 4000000 in
set_option maxRecDepth 100000 in
theorem qVo {p : Program} {l : Launch} {e : Env} {s : State} {m : MethodId} {args : Array Value} {below : List Frame} {meth : Method} {c : Code} {A : Nat → Prop} (dC : Nat → ClassId) (dI : Nat → Nat → Nat) (cyB cyI cyJ cyP : ClassId) (a0 jhX ji2 jdj jj4 : Nat) (jlU jmo ja4 jkn jjZ jlV : Value) (jaN : Int32) (jiL jjH jkE : NI) (Q : Int32 → Int32 → Int32 → Prop) (K4 : Int32 → Int32 → Int32 → Int32 → Int32 → Prop) (hK4 : ∀ (H : Heap) (locs : List Loc) (ls : Array Slot) (jl7 jkY l1 l2 l3 : Int32), va_P (dC, dI) vwCl (qsc a0 jhX ji2 jlU jmo ja4 jaN jdj jkY jl7 jkn jjZ jhX cyI jiL ji2 cyI jjH jdj jj4 jlV jj4 cyI jkE) H → va_D A (qsc a0 jhX ji2 jlU jmo ja4 jaN jdj jkY jl7 jkn jjZ jhX cyI jiL ji2 cyI jjH jdj jj4 jlV jj4 cyI jkE) → va_S A s.heap H locs → lv_has ls 4 [(0, .ref a0), (1, .int l1), (2, .int l2), (3, .int l3)] → K4 jl7 jkY l1 l2 l3 → W p l e (headSpec wsX3_formsFor ({ frames := 2, cells := 0, slots := 0, locals := 46 })).room s m args below meth c H locs 0 0 (MQ below (va_Qi (fun (r : Int32) (u : Int32 × Int32) => Q r u.1 u.2) (cB (dC, dI) (kT cyB cyI cyJ cyP) A (fun u : Int32 × Int32 => ((qsc a0 jhX ji2 jlU jmo ja4 jaN jdj u.2 u.1 jkn jjZ jhX cyI jiL ji2 cyI jjH jdj jj4 jlV jj4 cyI jkE) : va_W))) A) args s 0 0 A) (F0 m 4 ls [])) (C0 : cfx p s m args meth c cX3_formsFor (some .int) wsX3_formsFor RX3 4 A (dC, dI) (kT cyB cyI cyJ cyP)) : ∀ (H : Heap) (locs : List Loc) (ls : Array Slot) (jl7 jkY l1 l2 l3 : Int32), va_P (dC, dI) vwCl (qsc a0 jhX ji2 jlU jmo ja4 jaN jdj jkY jl7 jkn jjZ jhX cyI jiL ji2 cyI jjH jdj jj4 jlV jj4 cyI jkE) H → va_D A (qsc a0 jhX ji2 jlU jmo ja4 jaN jdj jkY jl7 jkn jjZ jhX cyI jiL ji2 cyI jjH jdj jj4 jlV jj4 cyI jkE) → va_S A s.heap H locs → lv_has ls 4 [(0, .ref a0), (1, .int l1), (2, .int l2), (3, .int l3)] → qJV jaN jiL jjH jkE Q K4 jl7 jkY l1 l2 l3 → W p l e (headSpec wsX3_formsFor ({ frames := 2, cells := 0, slots := 0, locals := 46 })).room s m args below meth c H locs 0 0 (MQ below (va_Qi (fun (r : Int32) (u : Int32 × Int32) => Q r u.1 u.2) (cB (dC, dI) (kT cyB cyI cyJ cyP) A (fun u : Int32 × Int32 => ((qsc a0 jhX ji2 jlU jmo ja4 jaN jdj u.2 u.1 jkn jjZ jhX cyI jiL ji2 cyI jjH jdj jj4 jlV jj4 cyI jkE) : va_W))) A) args s 0 0 A) (F0 m 61 ls []) := by
  obtain ⟨hx, hb, hr, hts, hown, hlocks, hml, hA, hK, hNw⟩ := id C0
  intro H locs ls jl7 jkY l1 l2 l3 hP hD hS hl hw
  obtain ⟨x8, ex8⟩ : ∃ y : Int32, y = l3 + 1 := ⟨_, rfl⟩
  have hw := hw x8 ex8
  refine lv_iinc (v := x8) (lv' := [(3, .int x8), (0, .ref a0), (1, .int l1), (2, .int l2)]) hx hb (qaa qoc 6 rfl) hl (k := 3) rfl (by rw [ex8]; rfl) (by decide) rfl (fun ls hl => ?_)
  refine lv_goto (tgt := 4) hx hb (qaa qoc 7 rfl) (by decide) ?_
  exact hK4 _ _ _ jl7 jkY l1 l2 x8 hP hD hS (lv_sub hl [1, 2, 3, 0] rfl) hw
set_option maxHeartbeats 4000000 in
set_option maxRecDepth 100000 in
theorem qVA {p : Program} {l : Launch} {e : Env} {s : State} {m : MethodId} {args : Array Value} {below : List Frame} {meth : Method} {c : Code} {A : Nat → Prop} (dC : Nat → ClassId) (dI : Nat → Nat → Nat) (cyB cyI cyJ cyP : ClassId) (a0 jhX ji2 jdj jj4 : Nat) (jlU jmo ja4 jkn jjZ jlV : Value) (jaN : Int32) (jiL jjH jkE : NI) (Q : Int32 → Int32 → Int32 → Prop) (K4 : Int32 → Int32 → Int32 → Int32 → Int32 → Prop) (hK4 : ∀ (H : Heap) (locs : List Loc) (ls : Array Slot) (jl7 jkY l1 l2 l3 : Int32), va_P (dC, dI) vwCl (qsc a0 jhX ji2 jlU jmo ja4 jaN jdj jkY jl7 jkn jjZ jhX cyI jiL ji2 cyI jjH jdj jj4 jlV jj4 cyI jkE) H → va_D A (qsc a0 jhX ji2 jlU jmo ja4 jaN jdj jkY jl7 jkn jjZ jhX cyI jiL ji2 cyI jjH jdj jj4 jlV jj4 cyI jkE) → va_S A s.heap H locs → lv_has ls 4 [(0, .ref a0), (1, .int l1), (2, .int l2), (3, .int l3)] → K4 jl7 jkY l1 l2 l3 → W p l e (headSpec wsX3_formsFor ({ frames := 2, cells := 0, slots := 0, locals := 46 })).room s m args below meth c H locs 0 0 (MQ below (va_Qi (fun (r : Int32) (u : Int32 × Int32) => Q r u.1 u.2) (cB (dC, dI) (kT cyB cyI cyJ cyP) A (fun u : Int32 × Int32 => ((qsc a0 jhX ji2 jlU jmo ja4 jaN jdj u.2 u.1 jkn jjZ jhX cyI jiL ji2 cyI jjH jdj jj4 jlV jj4 cyI jkE) : va_W))) A) args s 0 0 A) (F0 m 4 ls [])) (C0 : cfx p s m args meth c cX3_formsFor (some .int) wsX3_formsFor RX3 4 A (dC, dI) (kT cyB cyI cyJ cyP)) : ∀ (H : Heap) (locs : List Loc) (ls : Array Slot) (jl7 jkY l1 l2 l3 s1 : Int32), va_P (dC, dI) vwCl (qsc a0 jhX ji2 jlU jmo ja4 jaN jdj jkY jl7 jkn jjZ jhX cyI jiL ji2 cyI jjH jdj jj4 jlV jj4 cyI jkE) H → va_D A (qsc a0 jhX ji2 jlU jmo ja4 jaN jdj jkY jl7 jkn jjZ jhX cyI jiL ji2 cyI jjH jdj jj4 jlV jj4 cyI jkE) → va_S A s.heap H locs → lv_has ls 4 [(0, .ref a0), (1, .int l1), (2, .int l2), (3, .int l3)] → qJY jaN jiL jjH jkE Q K4 jl7 jkY l1 l2 l3 s1 → W p l e (headSpec wsX3_formsFor ({ frames := 2, cells := 0, slots := 0, locals := 46 })).room s m args below meth c H locs 0 0 (MQ below (va_Qi (fun (r : Int32) (u : Int32 × Int32) => Q r u.1 u.2) (cB (dC, dI) (kT cyB cyI cyJ cyP) A (fun u : Int32 × Int32 => ((qsc a0 jhX ji2 jlU jmo ja4 jaN jdj u.2 u.1 jkn jjZ jhX cyI jiL ji2 cyI jjH jdj jj4 jlV jj4 cyI jkE) : va_W))) A) args s 0 0 A) (F0 m 48 ls [.int s1, .ref a0]) := by
  obtain ⟨hx, hb, hr, hts, hown, hlocks, hml, hA, hK, hNw⟩ := id C0
  intro H locs ls jl7 jkY l1 l2 l3 s1 hP hD hS hl hw
  refine va_put (D := (dC, dI)) (ci := 3) (v := .int s1) (ty := .int) (C := RX3) (T := TX3) (N := 11) hx hb hts qvx tyX3 tyX3_ok nmX3 hown hK hP hD hS 0 rfl rfl 8 (by decide) (hts _ qRC) (fun _ h9 => h9) rfl (by decide +kernel) rfl rfl (nbq rfl) (qaa qed 15 rfl) (fun H locs hP hD hS => ?_)
  have hP : va_P (dC, dI) vwCl (qsc a0 jhX ji2 jlU jmo ja4 jaN jdj jkY s1 jkn jjZ jhX cyI jiL ji2 cyI jjH jdj jj4 jlV jj4 cyI jkE) H := hP
  have hD : va_D A (qsc a0 jhX ji2 jlU jmo ja4 jaN jdj jkY s1 jkn jjZ jhX cyI jiL ji2 cyI jjH jdj jj4 jlV jj4 cyI jkE) := hD
  refine lv_aload_n hx hb (qaa qoc 0 rfl) rfl (lv_at hl 0 rfl) ?_
  refine lv_dup hx hb (qaa qoc 1 rfl) rfl ?_
  refine va_get (D := (dC, dI)) (ci := 3) (v := .int jkY) (C := RX3) (T := TX3) (N := 11) hx hb hts qvx hown hK hP 0 rfl rfl 7 (by decide) (hts _ qH0) (fun _ h9 => h9) rfl (qaa qoc 2 rfl) ?_
  refine lv_iconst (v := 1) hx hb (qaa qoc 3 rfl) (by decide) ?_
  refine lv_iadd hx hb (qaa qoc 4 rfl) ?_
  refine lv_topi (fun x9 ex9 => ?_)
  have hw := hw x9 ex9
  refine va_put (D := (dC, dI)) (ci := 3) (v := .int x9) (ty := .int) (C := RX3) (T := TX3) (N := 11) hx hb hts qvx tyX3 tyX3_ok nmX3 hown hK hP hD hS 0 rfl rfl 7 (by decide) (hts _ qH0) (fun _ h9 => h9) rfl (by decide +kernel) rfl rfl (nbq rfl) (qaa qoc 5 rfl) (fun H locs hP hD hS => ?_)
  have hP : va_P (dC, dI) vwCl (qsc a0 jhX ji2 jlU jmo ja4 jaN jdj x9 s1 jkn jjZ jhX cyI jiL ji2 cyI jjH jdj jj4 jlV jj4 cyI jkE) H := hP
  have hD : va_D A (qsc a0 jhX ji2 jlU jmo ja4 jaN jdj x9 s1 jkn jjZ jhX cyI jiL ji2 cyI jjH jdj jj4 jlV jj4 cyI jkE) := hD
  exact qVo dC dI cyB cyI cyJ cyP a0 jhX ji2 jdj jj4 jlU jmo ja4 jkn jjZ jlV jaN jiL jjH jkE Q K4 hK4 C0 _ _ _ s1 x9 l1 l2 l3 hP hD hS (lv_sub hl [0, 1, 2, 3] rfl) hw
set_option maxHeartbeats 4000000 in
set_option maxRecDepth 100000 in
theorem qarW {p : Program} {l : Launch} {e : Env} {s : State} {m : MethodId} {args : Array Value} {below : List Frame} {meth : Method} {c : Code} {A : Nat → Prop} (dC : Nat → ClassId) (dI : Nat → Nat → Nat) (cyB cyI cyJ cyP : ClassId) (a0 jhX ji2 jdj jj4 : Nat) (jlU jmo ja4 jkn jjZ jlV : Value) (jaN : Int32) (jiL jjH jkE : NI) (Q : Int32 → Int32 → Int32 → Prop) (C0 : cfx p s m args meth c cX3_formsFor (some .int) wsX3_formsFor RX3 4 A (dC, dI) (kT cyB cyI cyJ cyP)) : ∀ (n : Nat) (H : Heap) (locs : List Loc) (ls : Array Slot) (jl7 jkY l1 l2 l3 : Int32), va_P (dC, dI) vwCl (qsc a0 jhX ji2 jlU jmo ja4 jaN jdj jkY jl7 jkn jjZ jhX cyI jiL ji2 cyI jjH jdj jj4 jlV jj4 cyI jkE) H → va_D A (qsc a0 jhX ji2 jlU jmo ja4 jaN jdj jkY jl7 jkn jjZ jhX cyI jiL ji2 cyI jjH jdj jj4 jlV jj4 cyI jkE) → va_S A s.heap H locs → lv_has ls 4 [(0, .ref a0), (1, .int l1), (2, .int l2), (3, .int l3)] → qqO jaN jiL jjH jkE Q n jl7 jkY l1 l2 l3 → W p l e (headSpec wsX3_formsFor ({ frames := 2, cells := 0, slots := 0, locals := 46 })).room s m args below meth c H locs 0 0 (MQ below (va_Qi (fun (r : Int32) (u : Int32 × Int32) => Q r u.1 u.2) (cB (dC, dI) (kT cyB cyI cyJ cyP) A (fun u : Int32 × Int32 => ((qsc a0 jhX ji2 jlU jmo ja4 jaN jdj u.2 u.1 jkn jjZ jhX cyI jiL ji2 cyI jjH jdj jj4 jlV jj4 cyI jkE) : va_W))) A) args s 0 0 A) (F0 m 4 ls []) := by
  obtain ⟨hx, hb, hr, hts, hown, hlocks, hml, hA, hK, hNw⟩ := id C0
  intro n
  induction n with
  | zero => intro H locs ls jl7 jkY l1 l2 l3 hP hD hS hl hw; exact False.elim hw
  | succ n ih =>
    intro H locs ls jl7 jkY l1 l2 l3 hP hD hS hl hw
    refine lv_iload_n hx hb (qaa qf0 4 rfl) rfl (lv_at hl 3 rfl) ?_
    refine lv_aload_n hx hb (qaa qf0 5 rfl) rfl (lv_at hl 0 rfl) ?_
    refine va_get (D := (dC, dI)) (ci := 3) (v := .int jaN) (C := RX3) (T := TX3) (N := 11) hx hb hts qvx hown hK hP 0 rfl rfl 5 (by decide) (hts _ qafR) (fun _ h9 => h9) rfl (qaa qf0 6 rfl) ?_
    refine lv_icmp_ge (tgt := 67) hx hb (qaa qf0 7 rfl) (by decide) (fun c1 => ?_) (fun c1 => ?_)
    · have hw := hw.1 c1
      refine lv_iload_n hx hb (qaa qoc 8 rfl) rfl (lv_at hl 2 rfl) ?_
      exact ((W.iret (v := l2) hx hb hr (fun t ht hW => ⟨⟨l2, (jl7, jkY), rfl, hw, by rw [ht]; exact hP, va_K.moved hW.alike hK, hD⟩, hS.F ht⟩) hS.2.2 (qaa qoc 9 rfl)))
    · have hw := hw.2 c1
      refine lv_aload_n hx hb (qaa qf0 8 rfl) rfl (lv_at hl 0 rfl) ?_
      refine lv_iload_n hx hb (qaa qf0 9 rfl) rfl (lv_at hl 1 rfl) ?_
      refine lv_iload_n hx hb (qaa qf0 10 rfl) rfl (lv_at hl 3 rfl) ?_
      obtain ⟨hCc, hPc, hDc, hFc⟩ := qac (ws' := (qsc a0 jhX ji2 jlU jmo ja4 jaN jdj jkY jl7 jkn jjZ jhX cyI jiL ji2 cyI jjH jdj jj4 jlV jj4 cyI jkE)) hP hD hS hA [0, 1, 2, 3, 4] (by decide +kernel) rfl
      refine va_calli (va_runV (As := [.int l1, .int l3]) (rest := []) ⟨hx, hb, hml, hown, hts⟩ (qaFv l dC dI cyB cyI cyJ cyP a0 jdj jhX ji2 jj4 H.size (jlU) (jmo) (ja4) (.int jkY) (.int jl7) (jkn) (jjZ) (jlV) jaN jiL jjH jkE l1 l3 hw) (cwV 2 hts gX3_formsFor_X3_allRight rfl rfl rfl (by decide +kernel) ⟨nbq rfl, nbq rfl⟩) ⟨qab, va_recv (q := (RX3, TX3, 11)) hK hPc (ci := 3) (q0 := 0) rfl rfl, qae hPc hK hDc hNw⟩ rfl rfl hl.1 rfl (lv_room (nbq rfl)) (qaa qf0 11 rfl) ⟨nbq rfl, nbq rfl⟩) hS (fun q _ h => hFc q h) hFc (fun r2 u t H1 locs ht hvm hw hB hz1 hk1 hS => ?_)
      obtain ⟨hP1, hK1, hD1⟩ := hB
      rw [ht] at hP1
      obtain ⟨hP, hD⟩ := qah (wr := []) (w1 := (qsc a0 jhX ji2 jlU jmo ja4 jaN jdj jkY jl7 jkn jjZ jhX cyI jiL ji2 cyI jjH jdj jj4 jlV jj4 cyI jkE)) (wn := (qsc a0 jhX ji2 jlU jmo ja4 jaN jdj jkY jl7 jkn jjZ jhX cyI jiL ji2 cyI jjH jdj jj4 jlV jj4 cyI jkE)) hP hD [0, 1, 2, 3, 4] [] hCc rfl (by decide +kernel) (by decide +kernel) rfl hk1 hFc hP1 hD1
      generalize H1 = H at hP hS ⊢
      refine lv_if_eq (tgt := 61) hx hb (qaa qf0 12 rfl) (by decide) (fun c3 => ?_) (fun c3 => ?_)
      · have hw := hw.1 c3
        exact qVo dC dI cyB cyI cyJ cyP a0 jhX ji2 jdj jj4 jlU jmo ja4 jkn jjZ jlV jaN jiL jjH jkE Q (qqO jaN jiL jjH jkE Q n) ih C0 _ _ _ jl7 jkY l1 l2 l3 hP hD hS (lv_sub hl [0, 1, 2, 3] rfl) hw
      · have hw := hw.2 c3
        refine lv_iload_n hx hb (qaa qf0 13 rfl) rfl (lv_at hl 2 rfl) ?_
        refine lv_iconst (v := 1) hx hb (qaa qf0 14 rfl) (by decide) ?_
        refine lv_iload_n hx hb (qaa qf0 15 rfl) rfl (lv_at hl 3 rfl) ?_
        refine lv_ishl hx hb (qaa qed 0 rfl) ?_
        refine lv_ior hx hb (qaa qed 1 rfl) ?_
        refine lv_topi (fun x4 ex4 => ?_)
        have hw := hw x4 ex4
        refine lv_istore_n (lv' := [(2, .int x4), (0, .ref a0), (1, .int l1), (3, .int l3)]) hx hb (qaa qed 2 rfl) rfl hl (by decide) rfl (fun ls hl => ?_)
        refine lv_aload_n hx hb (qaa qed 3 rfl) rfl (lv_at hl 1 rfl) ?_
        refine lv_aload_n hx hb (qaa qed 4 rfl) rfl (lv_at hl 1 rfl) ?_
        refine va_get (D := (dC, dI)) (ci := 3) (v := .int jkY) (C := RX3) (T := TX3) (N := 11) hx hb hts qvx hown hK hP 0 rfl rfl 7 (by decide) (hts _ qH0) (fun _ h9 => h9) rfl (qaa qed 5 rfl) ?_
        refine lv_if_ne (tgt := 44) hx hb (qaa qed 6 rfl) (by decide) (fun c5 => ?_) (fun c5 => ?_)
        · have hw := hw.1 c5
          refine lv_aload_n hx hb (qaa qed 13 rfl) rfl (lv_at hl 1 rfl) ?_
          refine va_get (D := (dC, dI)) (ci := 3) (v := .int jl7) (C := RX3) (T := TX3) (N := 11) hx hb hts qvx hown hK hP 0 rfl rfl 8 (by decide) (hts _ qRC) (fun _ h9 => h9) rfl (qaa qed 14 rfl) ?_
          exact qVA dC dI cyB cyI cyJ cyP a0 jhX ji2 jdj jj4 jlU jmo ja4 jkn jjZ jlV jaN jiL jjH jkE Q (qqO jaN jiL jjH jkE Q n) ih C0 _ _ _ jl7 jkY l1 x4 l3 jl7 hP hD hS (lv_sub hl [1, 2, 0, 3] rfl) hw
        · have hw := hw.2 c5
          refine lv_bipush (v := 10) hx hb (qaa qed 7 rfl) (by decide) ?_
          refine lv_iload_n hx hb (qaa qed 8 rfl) rfl (lv_at hl 2 rfl) ?_
          refine lv_imul hx hb (qaa qed 9 rfl) ?_
          refine lv_topi (fun x6 ex6 => ?_)
          have hw := hw x6 ex6
          refine lv_iload_n hx hb (qaa qed 10 rfl) rfl (lv_at hl 3 rfl) ?_
          refine lv_iadd hx hb (qaa qed 11 rfl) ?_
          refine lv_topi (fun x7 ex7 => ?_)
          have hw := hw x7 ex7
          refine lv_goto (tgt := 48) hx hb (qaa qed 12 rfl) (by decide) ?_
          exact qVA dC dI cyB cyI cyJ cyP a0 jhX ji2 jdj jj4 jlU jmo ja4 jkn jjZ jlV jaN jiL jjH jkE Q (qqO jaN jiL jjH jkE Q n) ih C0 _ _ _ jl7 jkY l1 x4 l3 x7 hP hD hS (lv_sub hl [1, 2, 0, 3] rfl) hw
set_option maxHeartbeats 4000000 in
set_option maxRecDepth 100000 in
theorem qaEC (l : Launch) (dC : Nat → ClassId) (dI : Nat → Nat → Nat) (cyB cyI cyJ cyP : ClassId) (a0 jhX ji2 jdj jj4 sz : Nat) (jlU jmo ja4 jkn jjZ jlV : Value) (jaN : Int32) (jiL jjH jkE : NI) (jl7 jkY p1 : Int32) {Q : Int32 → Int32 → Int32 → Prop} (hw : qS5 jaN jiL jjH jkE jl7 jkY p1 Q) : Met l yX3_formsFor wsX3_formsFor ({ frames := 2, cells := 0, slots := 0, locals := 46 }) (va_Pc [.ref a0, .int p1] (cPc (dC, dI) (kT cyB cyI cyJ cyP) (qsc a0 jhX ji2 jlU jmo ja4 jaN jdj jkY jl7 jkn jjZ jhX cyI jiL ji2 cyI jjH jdj jj4 jlV jj4 cyI jkE) sz)) (va_Qi (fun (r : Int32) (u : Int32 × Int32) => Q r u.1 u.2) (cB (dC, dI) (kT cyB cyI cyJ cyP) (va_A (qsc a0 jhX ji2 jlU jmo ja4 jaN jdj jkY jl7 jkn jjZ jhX cyI jiL ji2 cyI jjH jdj jj4 jlV jj4 cyI jkE) sz) (fun u : Int32 × Int32 => ((qsc a0 jhX ji2 jlU jmo ja4 jaN jdj u.2 u.1 jkn jjZ jhX cyI jiL ji2 cyI jjH jdj jj4 jlV jj4 cyI jkE) : va_W))) (va_A (qsc a0 jhX ji2 jlU jmo ja4 jaN jdj jkY jl7 jkn jjZ jhX cyI jiL ji2 cyI jjH jdj jj4 jlV jj4 cyI jkE) sz)) 0 0 (va_A (qsc a0 jhX ji2 jlU jmo ja4 jaN jdj jkY jl7 jkn jjZ jhX cyI jiL ji2 cyI jjH jdj jj4 jlV jj4 cyI jkE) sz) := by
  refine Met.ofW (cc := cX3_formsFor) (maxL := 4) (ret := (some .int)) (by decide) rfl ?_
  intro p e s m args below meth c s₁ B hml hv
  obtain ⟨rfl, hsz, hP, hK, hD0, hNw⟩ := hv
  have hx := B.exec
  have hb := B.bytes
  have hr := B.returns
  have hts := atoms_spec (ws := wsX3_formsFor) B.pre
  have hown : s.vm.findClass RX3 = some m.cls := findClass_of_methodNamed B.named
  have hlocks := B.notSynchronized
  subst hsz
  have hD := hD0.self (sz := s.heap.size)
  generalize hAe : va_A (qsc a0 jhX ji2 jlU jmo ja4 jaN jdj jkY jl7 jkn jjZ jhX cyI jiL ji2 cyI jjH jdj jj4 jlV jj4 cyI jkE) s.heap.size = A at hD ⊢
  have hA : ∀ q : Nat, s.heap.size ≤ q → A q := fun q h => by rw [← hAe]; exact Or.inr h
  have hS : va_S A s.heap s.heap [] := va_S.rf
  have hP : va_P (dC, dI) vwCl (qsc a0 jhX ji2 jlU jmo ja4 jaN jdj jkY jl7 jkn jjZ jhX cyI jiL ji2 cyI jjH jdj jj4 jlV jj4 cyI jkE) s.heap := hP
  have hl := lv_entry ([.ref a0, .int p1]) (n := 4) (nbq rfl)
  rw [lg_entry_eq]
  generalize (lg_sl ([.ref a0, .int p1]) ++ List.replicate (4 - (lg_sl ([.ref a0, .int p1])).length) Slot.unset).toArray = ls at hl ⊢
  have hl : lv_has ls 4 [(0, .ref a0), (1, .int p1)] := hl
  have C0 : cfx p s m _ meth c cX3_formsFor (some .int) wsX3_formsFor RX3 4 A (dC, dI) (kT cyB cyI cyJ cyP) := ⟨hx, hb, hr, hts, hown, hlocks, hml, hA, hK, hNw⟩
  clear hAe
  obtain ⟨H, hH⟩ : ∃ H, H = s.heap := ⟨_, rfl⟩
  rw [← hH] at hP ⊢
  have hS : va_S A s.heap H [] := by rw [hH]; exact va_S.rf
  have hS := hS
  refine lv_iconst (v := 0) hx hb (qaa qf0 0 rfl) (by decide) ?_
  refine lv_istore_n (lv' := [(2, .int 0), (0, .ref a0), (1, .int p1)]) hx hb (qaa qf0 1 rfl) rfl hl (by decide) rfl (fun ls hl => ?_)
  refine lv_iconst (v := 0) hx hb (qaa qf0 2 rfl) (by decide) ?_
  refine lv_istore_n (lv' := [(3, .int 0), (2, .int 0), (0, .ref a0), (1, .int p1)]) hx hb (qaa qf0 3 rfl) rfl hl (by decide) rfl (fun ls hl => ?_)
  obtain ⟨n9, hw⟩ := hw
  exact qarW dC dI cyB cyI cyJ cyP a0 jhX ji2 jdj jj4 jlU jmo ja4 jkn jjZ jlV jaN jiL jjH jkE Q C0 n9 _ _ _ jl7 jkY p1 0 0 hP hD hS (lv_sub hl [2, 3, 1, 0] rfl) hw
theorem q2R : ∀ w ∈ u_ws RX1 TX1 4, w ∈ wsX3_settle := uiM qh3 qV8 (by decide +kernel)
theorem q3p : ∀ w ∈ u_ws RX2 TX2 12, w ∈ wsX3_settle := uiM qh3 qLg (by decide +kernel)
theorem qqB : ∀ w ∈ u_ws RX3 TX3 11, w ∈ wsX3_settle := uiM qh3 euX3 (by decide +kernel)
theorem qaoL : (.fieldLink RX3 15 "MarchHares$Fitting" "sits" "[I" : Cond) ∈ wsX3_settle := qh3 391 (by decide +kernel)
theorem qatR : (.fieldLink RX3 18 "MarchHares$Fitting" "fittingForms" "[I" : Cond) ∈ wsX3_settle := qh3 392 (by decide +kernel)
theorem qZk : (.fieldLink RX3 24 "MarchHares$Days" "down" "LMarchHares$Down;" : Cond) ∈ wsX3_settle := qh3 3466 (by decide +kernel)
theorem qasx : (.fieldLink RX3 30 "MarchHares$Down" "hares" "I" : Cond) ∈ wsX3_settle := qh3 3467 (by decide +kernel)
theorem qZ3 : (.fieldLink RX3 36 "MarchHares$Fitting" "hares" "I" : Cond) ∈ wsX3_settle := qh3 3468 (by decide +kernel)
theorem qauv : (.fieldLink RX3 37 "MarchHares$Down" "forms" "I" : Cond) ∈ wsX3_settle := qh3 3469 (by decide +kernel)
theorem qZH : (.fieldLink RX3 40 "MarchHares$Fitting" "forms" "I" : Cond) ∈ wsX3_settle := qh3 3470 (by decide +kernel)
theorem qaux : (.fieldLink RX3 41 "MarchHares$Fitting" "book" "LMarchHares$Book;" : Cond) ∈ wsX3_settle := qh3 3471 (by decide +kernel)
theorem qaoR : (.fieldLink RX3 45 "MarchHares$Fitting" "many" "I" : Cond) ∈ wsX3_settle := qh3 3472 (by decide +kernel)
theorem qaqP : (.fieldLink RX3 48 "MarchHares$Fitting" "first" "I" : Cond) ∈ wsX3_settle := qh3 3473 (by decide +kernel)
theorem qaAM : (.fieldLink RX3 9 "MarchHares$Fitting" "seated" "[I" : Cond) ∈ wsX3_settle := qh3 390 (by decide +kernel)
set_option maxHeartbeats 4000000 in
set_option maxRecDepth 100000 in
theorem qZZ {p : Program} {l : Launch} {e : Env} {s : State} {m : MethodId} {args : Array Value} {below : List Frame} {meth : Method} {c : Code} {A : Nat → Prop} (dC : Nat → ClassId) (dI : Nat → Nat → Nat) (cyB cyI cyJ cyP : ClassId) (a0 a1 a2 jjN jhX jjO ji2 jhn jm6 : Nat) (jmo jpg jkn jjZ jjP jn2 jm3 jm4 jky jkz jkA jkX jkd jkB jke jnl joz : Value) (jjm jh5 : Int32) (jkO jnQ : NI) (Q : Int32 → Int32 → Int32 → Int32 → NI → NI → NI → Prop) (K69 : Int32 → Int32 → Int32 → Int32 → NI → NI → NI → Int32 → Prop) (hK69 : ∀ (H : Heap) (locs : List Loc) (ls : Array Slot) (jaC jaN jkY jl7 : Int32) (jiL jjH jim : NI) (l3 : Int32), va_P (dC, dI) vwCl (qqF a0 jhX ji2 jhn jmo jaC jaN a2 jkY jl7 jkn jjZ a1 jjO jjP jjN jn2 jjN jm3 jm4 jky jkz jkA jkX jkd jkB jjm jh5 jke jnl jjO cyI jkO jhX cyI jiL ji2 cyI jjH a2 jm6 joz jm6 cyI jnQ jhn cyI jim) H → va_D A (qqF a0 jhX ji2 jhn jmo jaC jaN a2 jkY jl7 jkn jjZ a1 jjO jjP jjN jn2 jjN jm3 jm4 jky jkz jkA jkX jkd jkB jjm jh5 jke jnl jjO cyI jkO jhX cyI jiL ji2 cyI jjH a2 jm6 joz jm6 cyI jnQ jhn cyI jim) → va_S A s.heap H locs → lv_has ls 4 [(0, .ref a0), (1, .ref a1), (3, .int l3)] → K69 jaC jaN jkY jl7 jiL jjH jim l3 → W p l e (headSpec wsX3_settle ({ frames := 3, cells := 0, slots := 0, locals := 69 })).room s m args below meth c H locs 0 0 (MQ below (va_Qv (fun (u : Int32 × Int32 × Int32 × Int32 × NI × NI × NI) => Q u.1 u.2.1 u.2.2.1 u.2.2.2.1 u.2.2.2.2.1 u.2.2.2.2.2.1 u.2.2.2.2.2.2) (cB (dC, dI) (kT cyB cyI cyJ cyP) A (fun u : Int32 × Int32 × Int32 × Int32 × NI × NI × NI => ((qqF a0 jhX ji2 jhn jmo u.1 u.2.1 a2 u.2.2.1 u.2.2.2.1 jkn jjZ a1 jjO jjP jjN jn2 jjN jm3 jm4 jky jkz jkA jkX jkd jkB jjm jh5 jke jnl jjO cyI jkO jhX cyI u.2.2.2.2.1 ji2 cyI u.2.2.2.2.2.1 a2 jm6 joz jm6 cyI jnQ jhn cyI u.2.2.2.2.2.2) : va_W))) A) args s 0 0 A) (F0 m 69 ls [])) (C0 : cfx p s m args meth c cX3_settle none wsX3_settle RX3 4 A (dC, dI) (kT cyB cyI cyJ cyP)) : ∀ (H : Heap) (locs : List Loc) (ls : Array Slot) (jaC jaN jkY jl7 : Int32) (jiL jjH jim : NI) (l3 s1 s2 : Int32), va_P (dC, dI) vwCl (qqF a0 jhX ji2 jhn jmo jaC jaN a2 jkY jl7 jkn jjZ a1 jjO jjP jjN jn2 jjN jm3 jm4 jky jkz jkA jkX jkd jkB jjm jh5 jke jnl jjO cyI jkO jhX cyI jiL ji2 cyI jjH a2 jm6 joz jm6 cyI jnQ jhn cyI jim) H → va_D A (qqF a0 jhX ji2 jhn jmo jaC jaN a2 jkY jl7 jkn jjZ a1 jjO jjP jjN jn2 jjN jm3 jm4 jky jkz jkA jkX jkd jkB jjm jh5 jke jnl jjO cyI jkO jhX cyI jiL ji2 cyI jjH a2 jm6 joz jm6 cyI jnQ jhn cyI jim) → va_S A s.heap H locs → lv_has ls 4 [(0, .ref a0), (1, .ref a1), (3, .int l3)] → qNi jjm jh5 jkO jnQ Q K69 jaC jaN jkY jl7 jiL jjH jim l3 s1 s2 → W p l e (headSpec wsX3_settle ({ frames := 3, cells := 0, slots := 0, locals := 69 })).room s m args below meth c H locs 0 0 (MQ below (va_Qv (fun (u : Int32 × Int32 × Int32 × Int32 × NI × NI × NI) => Q u.1 u.2.1 u.2.2.1 u.2.2.2.1 u.2.2.2.2.1 u.2.2.2.2.2.1 u.2.2.2.2.2.2) (cB (dC, dI) (kT cyB cyI cyJ cyP) A (fun u : Int32 × Int32 × Int32 × Int32 × NI × NI × NI => ((qqF a0 jhX ji2 jhn jmo u.1 u.2.1 a2 u.2.2.1 u.2.2.2.1 jkn jjZ a1 jjO jjP jjN jn2 jjN jm3 jm4 jky jkz jkA jkX jkd jkB jjm jh5 jke jnl jjO cyI jkO jhX cyI u.2.2.2.2.1 ji2 cyI u.2.2.2.2.2.1 a2 jm6 joz jm6 cyI jnQ jhn cyI u.2.2.2.2.2.2) : va_W))) A) args s 0 0 A) (F0 m 110 ls [.int s2, .int s1, .ref jhn]) := by
  obtain ⟨hx, hb, hr, hts, hown, hlocks, hml, hA, hK, hNw⟩ := id C0
  intro H locs ls jaC jaN jkY jl7 jiL jjH jim l3 s1 s2 hP hD hS hl hw
  obtain ⟨hi9, hw⟩ := hw
  refine va_iast hx hb hK hP hD hS 8 1 rfl rfl hi9 (qaa qho 12 rfl) (fun H locs hP hD hS => ?_)
  obtain ⟨f14, ef14⟩ : ∃ y : NI, y = upd jim s1.toNatClampNeg s2 := ⟨_, rfl⟩
  have hw := hw f14 ef14
  have hP : va_P (dC, dI) vwCl (qqF a0 jhX ji2 jhn jmo jaC jaN a2 jkY jl7 jkn jjZ a1 jjO jjP jjN jn2 jjN jm3 jm4 jky jkz jkA jkX jkd jkB jjm jh5 jke jnl jjO cyI jkO jhX cyI jiL ji2 cyI jjH a2 jm6 joz jm6 cyI jnQ jhn cyI f14) H := by rw [ef14]; exact hP
  have hD : va_D A (qqF a0 jhX ji2 jhn jmo jaC jaN a2 jkY jl7 jkn jjZ a1 jjO jjP jjN jn2 jjN jm3 jm4 jky jkz jkA jkX jkd jkB jjm jh5 jke jnl jjO cyI jkO jhX cyI jiL ji2 cyI jjH a2 jm6 joz jm6 cyI jnQ jhn cyI f14) := by rw [ef14]; exact hD
  obtain ⟨x15, ex15⟩ : ∃ y : Int32, y = l3 + 1 := ⟨_, rfl⟩
  have hw := hw x15 ex15
  refine lv_iinc (v := x15) (lv' := [(3, .int x15), (0, .ref a0), (1, .ref a1)]) hx hb (qaa qho 13 rfl) hl (k := 2) rfl (by rw [ex15]; rfl) (by decide) rfl (fun ls hl => ?_)
  refine lv_goto (tgt := 69) hx hb (qaa qho 14 rfl) (by decide) ?_
  exact hK69 _ _ _ jaC jaN jkY jl7 jiL jjH f14 x15 hP hD hS (lv_sub hl [1, 2, 0] rfl) hw
set_option maxHeartbeats 4000000 in
set_option maxRecDepth 100000 in
theorem qaB0 {p : Program} {l : Launch} {e : Env} {s : State} {m : MethodId} {args : Array Value} {below : List Frame} {meth : Method} {c : Code} {A : Nat → Prop} (dC : Nat → ClassId) (dI : Nat → Nat → Nat) (cyB cyI cyJ cyP : ClassId) (a0 a1 a2 jjN jhX jjO ji2 jhn jm6 : Nat) (jmo jpg jkn jjZ jjP jn2 jm3 jm4 jky jkz jkA jkX jkd jkB jke jnl joz : Value) (jjm jh5 : Int32) (jkO jnQ : NI) (Q : Int32 → Int32 → Int32 → Int32 → NI → NI → NI → Prop) (C0 : cfx p s m args meth c cX3_settle none wsX3_settle RX3 4 A (dC, dI) (kT cyB cyI cyJ cyP)) : ∀ (n : Nat) (H : Heap) (locs : List Loc) (ls : Array Slot) (jaC jaN jkY jl7 : Int32) (jiL jjH jim : NI) (l3 : Int32), va_P (dC, dI) vwCl (qqF a0 jhX ji2 jhn jmo jaC jaN a2 jkY jl7 jkn jjZ a1 jjO jjP jjN jn2 jjN jm3 jm4 jky jkz jkA jkX jkd jkB jjm jh5 jke jnl jjO cyI jkO jhX cyI jiL ji2 cyI jjH a2 jm6 joz jm6 cyI jnQ jhn cyI jim) H → va_D A (qqF a0 jhX ji2 jhn jmo jaC jaN a2 jkY jl7 jkn jjZ a1 jjO jjP jjN jn2 jjN jm3 jm4 jky jkz jkA jkX jkd jkB jjm jh5 jke jnl jjO cyI jkO jhX cyI jiL ji2 cyI jjH a2 jm6 joz jm6 cyI jnQ jhn cyI jim) → va_S A s.heap H locs → lv_has ls 4 [(0, .ref a0), (1, .ref a1), (3, .int l3)] → qv3 jjm jh5 jkO jnQ Q n jaC jaN jkY jl7 jiL jjH jim l3 → W p l e (headSpec wsX3_settle ({ frames := 3, cells := 0, slots := 0, locals := 69 })).room s m args below meth c H locs 0 0 (MQ below (va_Qv (fun (u : Int32 × Int32 × Int32 × Int32 × NI × NI × NI) => Q u.1 u.2.1 u.2.2.1 u.2.2.2.1 u.2.2.2.2.1 u.2.2.2.2.2.1 u.2.2.2.2.2.2) (cB (dC, dI) (kT cyB cyI cyJ cyP) A (fun u : Int32 × Int32 × Int32 × Int32 × NI × NI × NI => ((qqF a0 jhX ji2 jhn jmo u.1 u.2.1 a2 u.2.2.1 u.2.2.2.1 jkn jjZ a1 jjO jjP jjN jn2 jjN jm3 jm4 jky jkz jkA jkX jkd jkB jjm jh5 jke jnl jjO cyI jkO jhX cyI u.2.2.2.2.1 ji2 cyI u.2.2.2.2.2.1 a2 jm6 joz jm6 cyI jnQ jhn cyI u.2.2.2.2.2.2) : va_W))) A) args s 0 0 A) (F0 m 69 ls []) := by
  obtain ⟨hx, hb, hr, hts, hown, hlocks, hml, hA, hK, hNw⟩ := id C0
  intro n
  induction n with
  | zero => intro H locs ls jaC jaN jkY jl7 jiL jjH jim l3 hP hD hS hl hw; exact False.elim hw
  | succ n ih =>
    intro H locs ls jaC jaN jkY jl7 jiL jjH jim l3 hP hD hS hl hw
    refine lv_iload_n hx hb (qaa qg5 5 rfl) rfl (lv_at hl 2 rfl) ?_
    refine lv_aload_n hx hb (qaa qg5 6 rfl) rfl (lv_at hl 0 rfl) ?_
    refine va_get (D := (dC, dI)) (ci := 3) (v := .int jaC) (C := RX3) (T := TX3) (N := 11) hx hb hts qqB hown hK hP 0 rfl rfl 4 (by decide) (hts _ qZ3) (fun _ h9 => h9) rfl (qaa qg5 7 rfl) ?_
    refine lv_icmp_ge (tgt := 117) hx hb (qaa qg5 8 rfl) (by decide) (fun c6 => ?_) (fun c6 => ?_)
    · have hw := hw.1 c6
      exact ((W.vret hx hb hr (fun t ht hW => ⟨⟨(jaC, jaN, jkY, jl7, jiL, jjH, jim), rfl, hw, by rw [ht]; exact hP, va_K.moved hW.alike hK, hD⟩, hS.F ht⟩) hS.2.2 (qaa qho 15 rfl)))
    · have hw := hw.2 c6
      refine lv_aload_n hx hb (qaa qg5 9 rfl) rfl (lv_at hl 0 rfl) ?_
      refine va_get (D := (dC, dI)) (ci := 3) (v := .ref ji2) (C := RX3) (T := TX3) (N := 11) hx hb hts qqB hown hK hP 0 rfl rfl 1 (by decide) (hts _ qaoL) (fun _ h9 => h9) rfl (qaa qg5 10 rfl) ?_
      refine lv_iload_n hx hb (qaa qg5 11 rfl) rfl (lv_at hl 2 rfl) ?_
      refine lv_aload_n hx hb (qaa qg5 12 rfl) rfl (lv_at hl 1 rfl) ?_
      refine lv_iload_n hx hb (qaa qg5 13 rfl) rfl (lv_at hl 2 rfl) ?_
      obtain ⟨hCc, hPc, hDc, hFc⟩ := qac (ws' := (qaSi a1 jjO jjP jjN jn2 jjO cyI jkO)) hP hD hS hA [1, 3] (by decide +kernel) rfl
      refine va_calli (va_runV (As := [.int l3]) (rest := [.int l3, .ref ji2]) ⟨hx, hb, hml, hown, hts⟩ (qvC l dC dI cyB cyI cyJ cyP a1 jjO H.size (jjP) (.ref jjN) (jn2) jkO l3 hw) (cwV 1 hts gX3_settle_X1_sits rfl rfl rfl (by decide +kernel) ⟨nbq rfl, nbq rfl⟩) ⟨qab, va_recv (q := (RX1, TX1, 4)) hK hPc (ci := 1) (q0 := 0) rfl rfl, qae hPc hK hDc hNw⟩ rfl rfl hl.1 rfl (lv_room (nbq rfl)) (qaa qg5 14 rfl) ⟨nbq rfl, nbq rfl⟩) hS (fun q _ h => hFc q h) hFc (fun r7 u t H1 locs ht hvm hw hB hz1 hk1 hS => ?_)
      obtain ⟨hP1, hK1, hD1⟩ := hB
      rw [ht] at hP1
      obtain ⟨hP, hD⟩ := qad (wr := (qa3X a0 jhX ji2 jhn jmo jaC jaN a2 jkY jl7 jkn jjZ jjN jm3 jm4 jky jkz jkA jkX jkd jkB jjm jh5 jke jnl jhX cyI jiL ji2 cyI jjH a2 jm6 joz jm6 cyI jnQ jhn cyI jim)) (w1 := (qaSi a1 jjO jjP jjN jn2 jjO cyI jkO)) (wn := (qqF a0 jhX ji2 jhn jmo jaC jaN a2 jkY jl7 jkn jjZ a1 jjO jjP jjN jn2 jjN jm3 jm4 jky jkz jkA jkX jkd jkB jjm jh5 jke jnl jjO cyI jkO jhX cyI jiL ji2 cyI jjH a2 jm6 joz jm6 cyI jnQ jhn cyI jim)) hP hD [1, 3] [0, 2, 4, 5, 6, 7, 8] [0, 7, 1, 8, 2, 3, 4, 5, 6] hCc rfl (by decide +kernel) (by decide +kernel) (by decide +kernel) rfl hk1 hFc hP1 hD1
      generalize H1 = H at hP hS ⊢
      obtain ⟨hi9, hw⟩ := hw
      refine va_iast hx hb hK hP hD hS 5 1 rfl rfl hi9 (qaa qg5 15 rfl) (fun H locs hP hD hS => ?_)
      obtain ⟨f8, ef8⟩ : ∃ y : NI, y = upd jjH l3.toNatClampNeg r7 := ⟨_, rfl⟩
      have hw := hw f8 ef8
      have hP : va_P (dC, dI) vwCl (qqF a0 jhX ji2 jhn jmo jaC jaN a2 jkY jl7 jkn jjZ a1 jjO jjP jjN jn2 jjN jm3 jm4 jky jkz jkA jkX jkd jkB jjm jh5 jke jnl jjO cyI jkO jhX cyI jiL ji2 cyI f8 a2 jm6 joz jm6 cyI jnQ jhn cyI jim) H := by rw [ef8]; exact hP
      have hD : va_D A (qqF a0 jhX ji2 jhn jmo jaC jaN a2 jkY jl7 jkn jjZ a1 jjO jjP jjN jn2 jjN jm3 jm4 jky jkz jkA jkX jkd jkB jjm jh5 jke jnl jjO cyI jkO jhX cyI jiL ji2 cyI f8 a2 jm6 joz jm6 cyI jnQ jhn cyI jim) := by rw [ef8]; exact hD
      refine lv_aload_n hx hb (qaa qho 0 rfl) rfl (lv_at hl 0 rfl) ?_
      refine va_get (D := (dC, dI)) (ci := 3) (v := .ref jhn) (C := RX3) (T := TX3) (N := 11) hx hb hts qqB hown hK hP 0 rfl rfl 2 (by decide) (hts _ qatR) (fun _ h9 => h9) rfl (qaa qho 1 rfl) ?_
      refine lv_iload_n hx hb (qaa qho 2 rfl) rfl (lv_at hl 2 rfl) ?_
      refine lv_aload_n hx hb (qaa qho 3 rfl) rfl (lv_at hl 1 rfl) ?_
      refine lv_iload_n hx hb (qaa qho 4 rfl) rfl (lv_at hl 2 rfl) ?_
      obtain ⟨hCc, hPc, hDc, hFc⟩ := qac (ws' := (qaSi a1 jjO jjP jjN jn2 jjO cyI jkO)) hP hD hS hA [1, 3] (by decide +kernel) rfl
      refine va_calli (va_runV (As := [.int l3]) (rest := [.int l3, .ref jhn]) ⟨hx, hb, hml, hown, hts⟩ (qh8 l dC dI cyB cyI cyJ cyP a1 jjO H.size (jjP) (.ref jjN) (jn2) jkO l3 hw) (cwV 1 hts gX3_settle_X1_isCaught rfl rfl rfl (by decide +kernel) ⟨nbq rfl, nbq rfl⟩) ⟨qab, va_recv (q := (RX1, TX1, 4)) hK hPc (ci := 1) (q0 := 0) rfl rfl, qae hPc hK hDc hNw⟩ rfl rfl hl.1 rfl (lv_room (nbq rfl)) (qaa qho 5 rfl) ⟨nbq rfl, nbq rfl⟩) hS (fun q _ h => hFc q h) hFc (fun r9 u t H1 locs ht hvm hw hB hz1 hk1 hS => ?_)
      obtain ⟨hP1, hK1, hD1⟩ := hB
      rw [ht] at hP1
      obtain ⟨hP, hD⟩ := qad (wr := (qa3X a0 jhX ji2 jhn jmo jaC jaN a2 jkY jl7 jkn jjZ jjN jm3 jm4 jky jkz jkA jkX jkd jkB jjm jh5 jke jnl jhX cyI jiL ji2 cyI f8 a2 jm6 joz jm6 cyI jnQ jhn cyI jim)) (w1 := (qaSi a1 jjO jjP jjN jn2 jjO cyI jkO)) (wn := (qqF a0 jhX ji2 jhn jmo jaC jaN a2 jkY jl7 jkn jjZ a1 jjO jjP jjN jn2 jjN jm3 jm4 jky jkz jkA jkX jkd jkB jjm jh5 jke jnl jjO cyI jkO jhX cyI jiL ji2 cyI f8 a2 jm6 joz jm6 cyI jnQ jhn cyI jim)) hP hD [1, 3] [0, 2, 4, 5, 6, 7, 8] [0, 7, 1, 8, 2, 3, 4, 5, 6] hCc rfl (by decide +kernel) (by decide +kernel) (by decide +kernel) rfl hk1 hFc hP1 hD1
      generalize H1 = H at hP hS ⊢
      refine lv_if_eq (tgt := 105) hx hb (qaa qho 6 rfl) (by decide) (fun c10 => ?_) (fun c10 => ?_)
      · have hw := hw.1 c10
        refine lv_aload_n hx hb (qaa qho 9 rfl) rfl (lv_at hl 0 rfl) ?_
        refine lv_iload_n hx hb (qaa qho 10 rfl) rfl (lv_at hl 2 rfl) ?_
        obtain ⟨hCc, hPc, hDc, hFc⟩ := qac (ws' := (qa6V a0 jhX ji2 jhn jmo jaC jaN a2 jkY jl7 jkn jjZ jhX cyI jiL ji2 cyI f8 a2 jm6 joz jm6 cyI jnQ)) hP hD hS hA [0, 4, 5, 6, 7] (by decide +kernel) rfl
        refine va_calli (va_runV (As := [.int l3]) (rest := [.int l3, .ref jhn]) ⟨hx, hb, hml, hown, hts⟩ (qaEC l dC dI cyB cyI cyJ cyP a0 jhX ji2 a2 jm6 H.size (.ref jhn) (jmo) (.int jaC) (jkn) (jjZ) (joz) jaN jiL f8 jnQ jl7 jkY l3 hw) (cwV 1 hts gX3_settle_X3_formsFor rfl rfl rfl (by decide +kernel) ⟨nbq rfl, nbq rfl⟩) ⟨qab, va_recv (q := (RX3, TX3, 11)) hK hPc (ci := 3) (q0 := 0) rfl rfl, qae hPc hK hDc hNw⟩ rfl rfl hl.1 rfl (lv_room (nbq rfl)) (qaa qho 11 rfl) ⟨nbq rfl, nbq rfl⟩) hS (fun q _ h => hFc q h) hFc (fun r13 u t H1 locs ht hvm hw hB hz1 hk1 hS => ?_)
        obtain ⟨x11, x12⟩ := u
        obtain ⟨hP1, hK1, hD1⟩ := hB
        rw [ht] at hP1
        obtain ⟨hP, hD⟩ := qad (wr := [(a1, .inr (1, [.ref jjO, jjP, .ref jjN, jn2])), (jjN, .inr (2, [jm3, jm4, jky, jkz, jkA, jkX, jkd, jkB, .int jjm, .int jh5, jke, jnl])), (jjO, .inl (cyI, 64, .inl jkO)), (jhn, .inl (cyI, 6, .inl jim))]) (w1 := (qa6V a0 jhX ji2 jhn jmo jaC jaN a2 x12 x11 jkn jjZ jhX cyI jiL ji2 cyI f8 a2 jm6 joz jm6 cyI jnQ)) (wn := (qqF a0 jhX ji2 jhn jmo jaC jaN a2 x12 x11 jkn jjZ a1 jjO jjP jjN jn2 jjN jm3 jm4 jky jkz jkA jkX jkd jkB jjm jh5 jke jnl jjO cyI jkO jhX cyI jiL ji2 cyI f8 a2 jm6 joz jm6 cyI jnQ jhn cyI jim)) hP hD [0, 4, 5, 6, 7] [1, 2, 3, 8] [4, 0, 1, 2, 5, 6, 7, 8, 3] hCc rfl (by decide +kernel) (by decide +kernel) (by decide +kernel) rfl hk1 hFc hP1 hD1
        generalize H1 = H at hP hS ⊢
        exact qZZ dC dI cyB cyI cyJ cyP a0 a1 a2 jjN jhX jjO ji2 jhn jm6 jmo jpg jkn jjZ jjP jn2 jm3 jm4 jky jkz jkA jkX jkd jkB jke jnl joz jjm jh5 jkO jnQ Q (qv3 jjm jh5 jkO jnQ Q n) ih C0 _ _ _ jaC jaN x12 x11 jiL f8 jim l3 l3 r13 hP hD hS (lv_sub hl [0, 1, 2] rfl) hw
      · have hw := hw.2 c10
        refine lv_iconst (v := 0) hx hb (qaa qho 7 rfl) (by decide) ?_
        refine lv_goto (tgt := 110) hx hb (qaa qho 8 rfl) (by decide) ?_
        exact qZZ dC dI cyB cyI cyJ cyP a0 a1 a2 jjN jhX jjO ji2 jhn jm6 jmo jpg jkn jjZ jjP jn2 jm3 jm4 jky jkz jkA jkX jkd jkB jke jnl joz jjm jh5 jkO jnQ Q (qv3 jjm jh5 jkO jnQ Q n) ih C0 _ _ _ jaC jaN jkY jl7 jiL f8 jim l3 l3 0 hP hD hS (lv_sub hl [0, 1, 2] rfl) hw
set_option maxHeartbeats 4000000 in
set_option maxRecDepth 100000 in
theorem qazI {p : Program} {l : Launch} {e : Env} {s : State} {m : MethodId} {args : Array Value} {below : List Frame} {meth : Method} {c : Code} {A : Nat → Prop} (dC : Nat → ClassId) (dI : Nat → Nat → Nat) (cyB cyI cyJ cyP : ClassId) (a0 a1 a2 jjN jhX jjO ji2 jhn jm6 : Nat) (jmo jpg jkn jjZ jjP jn2 jm3 jm4 jky jkz jkA jkX jkd jkB jke jnl joz : Value) (jjm jh5 : Int32) (jkO jnQ : NI) (Q : Int32 → Int32 → Int32 → Int32 → NI → NI → NI → Prop) (C0 : cfx p s m args meth c cX3_settle none wsX3_settle RX3 4 A (dC, dI) (kT cyB cyI cyJ cyP)) : ∀ (n : Nat) (H : Heap) (locs : List Loc) (ls : Array Slot) (jaC jaN jkY jl7 : Int32) (jiL jjH jim : NI) (l3 : Int32), va_P (dC, dI) vwCl (qqF a0 jhX ji2 jhn jmo jaC jaN a2 jkY jl7 jkn jjZ a1 jjO jjP jjN jn2 jjN jm3 jm4 jky jkz jkA jkX jkd jkB jjm jh5 jke jnl jjO cyI jkO jhX cyI jiL ji2 cyI jjH a2 jm6 joz jm6 cyI jnQ jhn cyI jim) H → va_D A (qqF a0 jhX ji2 jhn jmo jaC jaN a2 jkY jl7 jkn jjZ a1 jjO jjP jjN jn2 jjN jm3 jm4 jky jkz jkA jkX jkd jkB jjm jh5 jke jnl jjO cyI jkO jhX cyI jiL ji2 cyI jjH a2 jm6 joz jm6 cyI jnQ jhn cyI jim) → va_S A s.heap H locs → lv_has ls 4 [(0, .ref a0), (1, .ref a1), (3, .int l3)] → qHL jjm jh5 jkO jnQ Q n jaC jaN jkY jl7 jiL jjH jim l3 → W p l e (headSpec wsX3_settle ({ frames := 3, cells := 0, slots := 0, locals := 69 })).room s m args below meth c H locs 0 0 (MQ below (va_Qv (fun (u : Int32 × Int32 × Int32 × Int32 × NI × NI × NI) => Q u.1 u.2.1 u.2.2.1 u.2.2.2.1 u.2.2.2.2.1 u.2.2.2.2.2.1 u.2.2.2.2.2.2) (cB (dC, dI) (kT cyB cyI cyJ cyP) A (fun u : Int32 × Int32 × Int32 × Int32 × NI × NI × NI => ((qqF a0 jhX ji2 jhn jmo u.1 u.2.1 a2 u.2.2.1 u.2.2.2.1 jkn jjZ a1 jjO jjP jjN jn2 jjN jm3 jm4 jky jkz jkA jkX jkd jkB jjm jh5 jke jnl jjO cyI jkO jhX cyI u.2.2.2.2.1 ji2 cyI u.2.2.2.2.2.1 a2 jm6 joz jm6 cyI jnQ jhn cyI u.2.2.2.2.2.2) : va_W))) A) args s 0 0 A) (F0 m 39 ls []) := by
  obtain ⟨hx, hb, hr, hts, hown, hlocks, hml, hA, hK, hNw⟩ := id C0
  intro n
  induction n with
  | zero => intro H locs ls jaC jaN jkY jl7 jiL jjH jim l3 hP hD hS hl hw; exact False.elim hw
  | succ n ih =>
    intro H locs ls jaC jaN jkY jl7 jiL jjH jim l3 hP hD hS hl hw
    refine lv_iload_n hx hb (qaa qhs 5 rfl) rfl (lv_at hl 2 rfl) ?_
    refine lv_aload_n hx hb (qaa qhs 6 rfl) rfl (lv_at hl 0 rfl) ?_
    refine va_get (D := (dC, dI)) (ci := 3) (v := .int jaN) (C := RX3) (T := TX3) (N := 11) hx hb hts qqB hown hK hP 0 rfl rfl 5 (by decide) (hts _ qZH) (fun _ h9 => h9) rfl (qaa qhs 7 rfl) ?_
    refine lv_icmp_ge (tgt := 67) hx hb (qaa qhs 8 rfl) (by decide) (fun c1 => ?_) (fun c1 => ?_)
    · have hw := hw.1 c1
      refine lv_iconst (v := 0) hx hb (qaa qg5 3 rfl) (by decide) ?_
      refine lv_istore_n (lv' := [(3, .int 0), (0, .ref a0), (1, .ref a1)]) hx hb (qaa qg5 4 rfl) rfl hl (by decide) rfl (fun ls hl => ?_)
      obtain ⟨n9, hw⟩ := hw
      exact qaB0 dC dI cyB cyI cyJ cyP a0 a1 a2 jjN jhX jjO ji2 jhn jm6 jmo jpg jkn jjZ jjP jn2 jm3 jm4 jky jkz jkA jkX jkd jkB jke jnl joz jjm jh5 jkO jnQ Q C0 n9 _ _ _ jaC jaN jkY jl7 jiL jjH jim 0 hP hD hS (lv_sub hl [1, 2, 0] rfl) hw
    · have hw := hw.2 c1
      refine lv_aload_n hx hb (qaa qhs 9 rfl) rfl (lv_at hl 0 rfl) ?_
      refine va_get (D := (dC, dI)) (ci := 3) (v := .ref jhX) (C := RX3) (T := TX3) (N := 11) hx hb hts qqB hown hK hP 0 rfl rfl 0 (by decide) (hts _ qaAM) (fun _ h9 => h9) rfl (qaa qhs 10 rfl) ?_
      refine lv_iload_n hx hb (qaa qhs 11 rfl) rfl (lv_at hl 2 rfl) ?_
      refine lv_aload_n hx hb (qaa qhs 12 rfl) rfl (lv_at hl 1 rfl) ?_
      refine lv_iload_n hx hb (qaa qhs 13 rfl) rfl (lv_at hl 2 rfl) ?_
      obtain ⟨hCc, hPc, hDc, hFc⟩ := qac (ws' := (qa3Z a1 jjO jjP jjN jn2 jjN jm3 jm4 jky jkz jkA jkX jkd jkB jjm jh5 jke jnl jjO cyI jkO)) hP hD hS hA [1, 2, 3] (by decide +kernel) rfl
      refine va_calli (va_runV (As := [.int l3]) (rest := [.int l3, .ref jhX]) ⟨hx, hb, hml, hown, hts⟩ (qTQ l dC dI cyB cyI cyJ cyP a1 jjN jjO H.size (jjP) (jn2) (jm3) (jm4) (jky) (jkz) (jkA) (jkX) (jkd) (jkB) (.int jjm) (jke) (jnl) jh5 jkO l3 hw) (cwV 1 hts gX3_settle_X1_seatedIn rfl rfl rfl (by decide +kernel) ⟨nbq rfl, nbq rfl⟩) ⟨qab, va_recv (q := (RX1, TX1, 4)) hK hPc (ci := 1) (q0 := 0) rfl rfl, qae hPc hK hDc hNw⟩ rfl rfl hl.1 rfl (lv_room (nbq rfl)) (qaa qhs 14 rfl) ⟨nbq rfl, nbq rfl⟩) hS (fun q _ h => hFc q h) hFc (fun r2 u t H1 locs ht hvm hw hB hz1 hk1 hS => ?_)
      obtain ⟨hP1, hK1, hD1⟩ := hB
      rw [ht] at hP1
      obtain ⟨hP, hD⟩ := qad (wr := [(a0, .inr (3, [.ref jhX, .ref ji2, .ref jhn, jmo, .int jaC, .int jaN, .ref a2, .int jkY, .int jl7, jkn, jjZ])), (jhX, .inl (cyI, 8, .inl jiL)), (ji2, .inl (cyI, 6, .inl jjH)), (a2, .inr (0, [.ref jm6, joz])), (jm6, .inl (cyI, 8, .inl jnQ)), (jhn, .inl (cyI, 6, .inl jim))]) (w1 := (qa3Z a1 jjO jjP jjN jn2 jjN jm3 jm4 jky jkz jkA jkX jkd jkB jjm jh5 jke jnl jjO cyI jkO)) (wn := (qqF a0 jhX ji2 jhn jmo jaC jaN a2 jkY jl7 jkn jjZ a1 jjO jjP jjN jn2 jjN jm3 jm4 jky jkz jkA jkX jkd jkB jjm jh5 jke jnl jjO cyI jkO jhX cyI jiL ji2 cyI jjH a2 jm6 joz jm6 cyI jnQ jhn cyI jim)) hP hD [1, 2, 3] [0, 4, 5, 6, 7, 8] [0, 6, 7, 8, 1, 2, 3, 4, 5] hCc rfl (by decide +kernel) (by decide +kernel) (by decide +kernel) rfl hk1 hFc hP1 hD1
      generalize H1 = H at hP hS ⊢
      obtain ⟨hCc, hPc, hDc, hFc⟩ := qac (ws' := []) hP hD hS hA [] (by decide +kernel) rfl
      refine va_calli (va_runS (As := [.int r2]) (rest := [.int l3, .ref jhX]) ⟨hx, hb, hml, hown, hts⟩ (qxT l dC dI cyB cyI cyJ cyP H.size r2 hw) (va_cwS 1 hts gX3_settle_J6_bitCount_0f7a4 rfl rfl rfl (by decide +kernel) ⟨nbq rfl, nbq rfl⟩) ⟨qab, qae hPc hK hDc hNw⟩ rfl rfl hl.1 rfl (lv_room (nbq rfl)) (qaa qhs 15 rfl) ⟨nbq rfl, nbq rfl⟩) hS (fun q _ h => hFc q h) hFc (fun r3 u t H1 locs ht hvm hw hB hz1 hk1 hS => ?_)
      obtain ⟨hP1, hK1, hD1⟩ := hB
      rw [ht] at hP1
      obtain ⟨hP, hD⟩ := qah (wr := (qqF a0 jhX ji2 jhn jmo jaC jaN a2 jkY jl7 jkn jjZ a1 jjO jjP jjN jn2 jjN jm3 jm4 jky jkz jkA jkX jkd jkB jjm jh5 jke jnl jjO cyI jkO jhX cyI jiL ji2 cyI jjH a2 jm6 joz jm6 cyI jnQ jhn cyI jim)) (w1 := []) (wn := (qqF a0 jhX ji2 jhn jmo jaC jaN a2 jkY jl7 jkn jjZ a1 jjO jjP jjN jn2 jjN jm3 jm4 jky jkz jkA jkX jkd jkB jjm jh5 jke jnl jjO cyI jkO jhX cyI jiL ji2 cyI jjH a2 jm6 joz jm6 cyI jnQ jhn cyI jim)) hP hD [] [0, 1, 2, 3, 4, 5, 6, 7, 8] hCc rfl (by decide +kernel) (by decide +kernel) rfl hk1 hFc hP1 hD1
      generalize H1 = H at hP hS ⊢
      obtain ⟨hi9, hw⟩ := hw
      refine va_iast hx hb hK hP hD hS 4 1 rfl rfl hi9 (qaa qg5 0 rfl) (fun H locs hP hD hS => ?_)
      obtain ⟨f4, ef4⟩ : ∃ y : NI, y = upd jiL l3.toNatClampNeg r3 := ⟨_, rfl⟩
      have hw := hw f4 ef4
      have hP : va_P (dC, dI) vwCl (qqF a0 jhX ji2 jhn jmo jaC jaN a2 jkY jl7 jkn jjZ a1 jjO jjP jjN jn2 jjN jm3 jm4 jky jkz jkA jkX jkd jkB jjm jh5 jke jnl jjO cyI jkO jhX cyI f4 ji2 cyI jjH a2 jm6 joz jm6 cyI jnQ jhn cyI jim) H := by rw [ef4]; exact hP
      have hD : va_D A (qqF a0 jhX ji2 jhn jmo jaC jaN a2 jkY jl7 jkn jjZ a1 jjO jjP jjN jn2 jjN jm3 jm4 jky jkz jkA jkX jkd jkB jjm jh5 jke jnl jjO cyI jkO jhX cyI f4 ji2 cyI jjH a2 jm6 joz jm6 cyI jnQ jhn cyI jim) := by rw [ef4]; exact hD
      obtain ⟨x5, ex5⟩ : ∃ y : Int32, y = l3 + 1 := ⟨_, rfl⟩
      have hw := hw x5 ex5
      refine lv_iinc (v := x5) (lv' := [(3, .int x5), (0, .ref a0), (1, .ref a1)]) hx hb (qaa qg5 1 rfl) hl (k := 2) rfl (by rw [ex5]; rfl) (by decide) rfl (fun ls hl => ?_)
      refine lv_goto (tgt := 39) hx hb (qaa qg5 2 rfl) (by decide) ?_
      exact ih _ _ _ jaC jaN jkY jl7 f4 jjH jim x5 hP hD hS (lv_sub hl [1, 2, 0] rfl) hw
set_option maxHeartbeats 4000000 in
set_option maxRecDepth 100000 in
theorem qan7 (l : Launch) (dC : Nat → ClassId) (dI : Nat → Nat → Nat) (cyB cyI cyJ cyP : ClassId) (a0 a1 a2 jjN jhX jjO ji2 jhn jm6 sz : Nat) (jmo jpg jkn jjZ jjP jn2 jm3 jm4 jky jkz jkA jkX jkd jkB jke jnl joz : Value) (jjm jh5 : Int32) (jkO jnQ : NI) (jaC jaN jkY jl7 : Int32) (jiL jjH jim : NI) {Q : Int32 → Int32 → Int32 → Int32 → NI → NI → NI → Prop} (hw : qRT jjm jh5 jkO jnQ jaC jaN jkY jl7 jiL jjH jim Q) : Met l yX3_settle wsX3_settle ({ frames := 3, cells := 0, slots := 0, locals := 69 }) (va_Pc [.ref a0, .ref a1, .ref a2] (cPc (dC, dI) (kT cyB cyI cyJ cyP) (qJw a0 jhX ji2 jhn jmo jaC jaN jpg jkY jl7 jkn jjZ a1 jjO jjP jjN jn2 jjN jm3 jm4 jky jkz jkA jkX jkd jkB jjm jh5 jke jnl jjO cyI jkO jhX cyI jiL ji2 cyI jjH a2 jm6 joz jm6 cyI jnQ jhn cyI jim) sz)) (va_Qv (fun (u : Int32 × Int32 × Int32 × Int32 × NI × NI × NI) => Q u.1 u.2.1 u.2.2.1 u.2.2.2.1 u.2.2.2.2.1 u.2.2.2.2.2.1 u.2.2.2.2.2.2) (cB (dC, dI) (kT cyB cyI cyJ cyP) (va_A (qJw a0 jhX ji2 jhn jmo jaC jaN jpg jkY jl7 jkn jjZ a1 jjO jjP jjN jn2 jjN jm3 jm4 jky jkz jkA jkX jkd jkB jjm jh5 jke jnl jjO cyI jkO jhX cyI jiL ji2 cyI jjH a2 jm6 joz jm6 cyI jnQ jhn cyI jim) sz) (fun u : Int32 × Int32 × Int32 × Int32 × NI × NI × NI => ((qqF a0 jhX ji2 jhn jmo u.1 u.2.1 a2 u.2.2.1 u.2.2.2.1 jkn jjZ a1 jjO jjP jjN jn2 jjN jm3 jm4 jky jkz jkA jkX jkd jkB jjm jh5 jke jnl jjO cyI jkO jhX cyI u.2.2.2.2.1 ji2 cyI u.2.2.2.2.2.1 a2 jm6 joz jm6 cyI jnQ jhn cyI u.2.2.2.2.2.2) : va_W))) (va_A (qJw a0 jhX ji2 jhn jmo jaC jaN jpg jkY jl7 jkn jjZ a1 jjO jjP jjN jn2 jjN jm3 jm4 jky jkz jkA jkX jkd jkB jjm jh5 jke jnl jjO cyI jkO jhX cyI jiL ji2 cyI jjH a2 jm6 joz jm6 cyI jnQ jhn cyI jim) sz)) 0 0 (va_A (qJw a0 jhX ji2 jhn jmo jaC jaN jpg jkY jl7 jkn jjZ a1 jjO jjP jjN jn2 jjN jm3 jm4 jky jkz jkA jkX jkd jkB jjm jh5 jke jnl jjO cyI jkO jhX cyI jiL ji2 cyI jjH a2 jm6 joz jm6 cyI jnQ jhn cyI jim) sz) := by
  refine Met.ofW (cc := cX3_settle) (maxL := 4) (ret := none) (by decide) rfl ?_
  intro p e s m args below meth c s₁ B hml hv
  obtain ⟨rfl, hsz, hP, hK, hD0, hNw⟩ := hv
  have hx := B.exec
  have hb := B.bytes
  have hr := B.returns
  have hts := atoms_spec (ws := wsX3_settle) B.pre
  have hown : s.vm.findClass RX3 = some m.cls := findClass_of_methodNamed B.named
  have hlocks := B.notSynchronized
  subst hsz
  have hD := hD0.self (sz := s.heap.size)
  generalize hAe : va_A (qJw a0 jhX ji2 jhn jmo jaC jaN jpg jkY jl7 jkn jjZ a1 jjO jjP jjN jn2 jjN jm3 jm4 jky jkz jkA jkX jkd jkB jjm jh5 jke jnl jjO cyI jkO jhX cyI jiL ji2 cyI jjH a2 jm6 joz jm6 cyI jnQ jhn cyI jim) s.heap.size = A at hD ⊢
  have hA : ∀ q : Nat, s.heap.size ≤ q → A q := fun q h => by rw [← hAe]; exact Or.inr h
  have hS : va_S A s.heap s.heap [] := va_S.rf
  have hP : va_P (dC, dI) vwCl (qJw a0 jhX ji2 jhn jmo jaC jaN jpg jkY jl7 jkn jjZ a1 jjO jjP jjN jn2 jjN jm3 jm4 jky jkz jkA jkX jkd jkB jjm jh5 jke jnl jjO cyI jkO jhX cyI jiL ji2 cyI jjH a2 jm6 joz jm6 cyI jnQ jhn cyI jim) s.heap := hP
  have hl := lv_entry ([.ref a0, .ref a1, .ref a2]) (n := 4) (nbq rfl)
  rw [lg_entry_eq]
  generalize (lg_sl ([.ref a0, .ref a1, .ref a2]) ++ List.replicate (4 - (lg_sl ([.ref a0, .ref a1, .ref a2])).length) Slot.unset).toArray = ls at hl ⊢
  have hl : lv_has ls 4 [(0, .ref a0), (1, .ref a1), (2, .ref a2)] := hl
  have C0 : cfx p s m _ meth c cX3_settle none wsX3_settle RX3 4 A (dC, dI) (kT cyB cyI cyJ cyP) := ⟨hx, hb, hr, hts, hown, hlocks, hml, hA, hK, hNw⟩
  clear hAe
  obtain ⟨H, hH⟩ : ∃ H, H = s.heap := ⟨_, rfl⟩
  rw [← hH] at hP ⊢
  have hS : va_S A s.heap H [] := by rw [hH]; exact va_S.rf
  have hS := hS
  refine lv_aload_n hx hb (qaa qiB 0 rfl) rfl (lv_at hl 0 rfl) ?_
  refine lv_aload_n hx hb (qaa qiB 1 rfl) rfl (lv_at hl 1 rfl) ?_
  refine va_get (D := (dC, dI)) (ci := 1) (v := .ref jjN) (C := RX1) (T := TX1) (N := 4) hx hb hts q2R hown hK hP 1 rfl rfl 2 (by decide) (hts _ qZk) (fun _ h9 => h9) rfl (qaa qiB 2 rfl) ?_
  refine va_get (D := (dC, dI)) (ci := 2) (v := .int jh5) (C := RX2) (T := TX2) (N := 12) hx hb hts q3p hown hK hP 2 rfl rfl 9 (by decide) (hts _ qasx) (fun _ h9 => h9) rfl (qaa qiB 3 rfl) ?_
  refine va_put (D := (dC, dI)) (ci := 3) (v := .int jh5) (ty := .int) (C := RX3) (T := TX3) (N := 11) hx hb hts qqB tyX3 tyX3_ok nmX3 hown hK hP hD hS 0 rfl rfl 4 (by decide) (hts _ qZ3) (fun _ h9 => h9) rfl (by decide +kernel) rfl rfl (nbq rfl) (qaa qiB 4 rfl) (fun H locs hP hD hS => ?_)
  have hP : va_P (dC, dI) vwCl (qJw a0 jhX ji2 jhn jmo jh5 jaN jpg jkY jl7 jkn jjZ a1 jjO jjP jjN jn2 jjN jm3 jm4 jky jkz jkA jkX jkd jkB jjm jh5 jke jnl jjO cyI jkO jhX cyI jiL ji2 cyI jjH a2 jm6 joz jm6 cyI jnQ jhn cyI jim) H := hP
  have hD : va_D A (qJw a0 jhX ji2 jhn jmo jh5 jaN jpg jkY jl7 jkn jjZ a1 jjO jjP jjN jn2 jjN jm3 jm4 jky jkz jkA jkX jkd jkB jjm jh5 jke jnl jjO cyI jkO jhX cyI jiL ji2 cyI jjH a2 jm6 joz jm6 cyI jnQ jhn cyI jim) := hD
  refine lv_aload_n hx hb (qaa qiB 5 rfl) rfl (lv_at hl 0 rfl) ?_
  refine lv_aload_n hx hb (qaa qiB 6 rfl) rfl (lv_at hl 1 rfl) ?_
  refine va_get (D := (dC, dI)) (ci := 1) (v := .ref jjN) (C := RX1) (T := TX1) (N := 4) hx hb hts q2R hown hK hP 1 rfl rfl 2 (by decide) (hts _ qZk) (fun _ h9 => h9) rfl (qaa qiB 7 rfl) ?_
  refine va_get (D := (dC, dI)) (ci := 2) (v := .int jjm) (C := RX2) (T := TX2) (N := 12) hx hb hts q3p hown hK hP 2 rfl rfl 8 (by decide) (hts _ qauv) (fun _ h9 => h9) rfl (qaa qiB 8 rfl) ?_
  refine va_put (D := (dC, dI)) (ci := 3) (v := .int jjm) (ty := .int) (C := RX3) (T := TX3) (N := 11) hx hb hts qqB tyX3 tyX3_ok nmX3 hown hK hP hD hS 0 rfl rfl 5 (by decide) (hts _ qZH) (fun _ h9 => h9) rfl (by decide +kernel) rfl rfl (nbq rfl) (qaa qiB 9 rfl) (fun H locs hP hD hS => ?_)
  have hP : va_P (dC, dI) vwCl (qJw a0 jhX ji2 jhn jmo jh5 jjm jpg jkY jl7 jkn jjZ a1 jjO jjP jjN jn2 jjN jm3 jm4 jky jkz jkA jkX jkd jkB jjm jh5 jke jnl jjO cyI jkO jhX cyI jiL ji2 cyI jjH a2 jm6 joz jm6 cyI jnQ jhn cyI jim) H := hP
  have hD : va_D A (qJw a0 jhX ji2 jhn jmo jh5 jjm jpg jkY jl7 jkn jjZ a1 jjO jjP jjN jn2 jjN jm3 jm4 jky jkz jkA jkX jkd jkB jjm jh5 jke jnl jjO cyI jkO jhX cyI jiL ji2 cyI jjH a2 jm6 joz jm6 cyI jnQ jhn cyI jim) := hD
  refine lv_aload_n hx hb (qaa qiB 10 rfl) rfl (lv_at hl 0 rfl) ?_
  refine lv_aload_n hx hb (qaa qiB 11 rfl) rfl (lv_at hl 2 rfl) ?_
  refine va_put (D := (dC, dI)) (ci := 3) (v := .ref a2) (ty := .object "MarchHares$Book") (C := RX3) (T := TX3) (N := 11) hx hb hts qqB tyX3 tyX3_ok nmX3 hown hK hP hD hS 0 rfl rfl 6 (by decide) (hts _ qaux) (fun _ h9 => h9) rfl (by decide +kernel) rfl rfl (nbq rfl) (qaa qiB 12 rfl) (fun H locs hP hD hS => ?_)
  have hP : va_P (dC, dI) vwCl (qqF a0 jhX ji2 jhn jmo jh5 jjm a2 jkY jl7 jkn jjZ a1 jjO jjP jjN jn2 jjN jm3 jm4 jky jkz jkA jkX jkd jkB jjm jh5 jke jnl jjO cyI jkO jhX cyI jiL ji2 cyI jjH a2 jm6 joz jm6 cyI jnQ jhn cyI jim) H := hP
  have hD : va_D A (qqF a0 jhX ji2 jhn jmo jh5 jjm a2 jkY jl7 jkn jjZ a1 jjO jjP jjN jn2 jjN jm3 jm4 jky jkz jkA jkX jkd jkB jjm jh5 jke jnl jjO cyI jkO jhX cyI jiL ji2 cyI jjH a2 jm6 joz jm6 cyI jnQ jhn cyI jim) := hD
  refine lv_aload_n hx hb (qaa qiB 13 rfl) rfl (lv_at hl 0 rfl) ?_
  refine lv_iconst (v := 0) hx hb (qaa qiB 14 rfl) (by decide) ?_
  refine va_put (D := (dC, dI)) (ci := 3) (v := .int 0) (ty := .int) (C := RX3) (T := TX3) (N := 11) hx hb hts qqB tyX3 tyX3_ok nmX3 hown hK hP hD hS 0 rfl rfl 7 (by decide) (hts _ qaoR) (fun _ h9 => h9) rfl (by decide +kernel) rfl rfl (nbq rfl) (qaa qiB 15 rfl) (fun H locs hP hD hS => ?_)
  have hP : va_P (dC, dI) vwCl (qqF a0 jhX ji2 jhn jmo jh5 jjm a2 0 jl7 jkn jjZ a1 jjO jjP jjN jn2 jjN jm3 jm4 jky jkz jkA jkX jkd jkB jjm jh5 jke jnl jjO cyI jkO jhX cyI jiL ji2 cyI jjH a2 jm6 joz jm6 cyI jnQ jhn cyI jim) H := hP
  have hD : va_D A (qqF a0 jhX ji2 jhn jmo jh5 jjm a2 0 jl7 jkn jjZ a1 jjO jjP jjN jn2 jjN jm3 jm4 jky jkz jkA jkX jkd jkB jjm jh5 jke jnl jjO cyI jkO jhX cyI jiL ji2 cyI jjH a2 jm6 joz jm6 cyI jnQ jhn cyI jim) := hD
  refine lv_aload_n hx hb (qaa qhs 0 rfl) rfl (lv_at hl 0 rfl) ?_
  refine lv_iconst (v := (-1)) hx hb (qaa qhs 1 rfl) (by decide) ?_
  refine va_put (D := (dC, dI)) (ci := 3) (v := .int (-1)) (ty := .int) (C := RX3) (T := TX3) (N := 11) hx hb hts qqB tyX3 tyX3_ok nmX3 hown hK hP hD hS 0 rfl rfl 8 (by decide) (hts _ qaqP) (fun _ h9 => h9) rfl (by decide +kernel) rfl rfl (nbq rfl) (qaa qhs 2 rfl) (fun H locs hP hD hS => ?_)
  have hP : va_P (dC, dI) vwCl (qqF a0 jhX ji2 jhn jmo jh5 jjm a2 0 (-1) jkn jjZ a1 jjO jjP jjN jn2 jjN jm3 jm4 jky jkz jkA jkX jkd jkB jjm jh5 jke jnl jjO cyI jkO jhX cyI jiL ji2 cyI jjH a2 jm6 joz jm6 cyI jnQ jhn cyI jim) H := hP
  have hD : va_D A (qqF a0 jhX ji2 jhn jmo jh5 jjm a2 0 (-1) jkn jjZ a1 jjO jjP jjN jn2 jjN jm3 jm4 jky jkz jkA jkX jkd jkB jjm jh5 jke jnl jjO cyI jkO jhX cyI jiL ji2 cyI jjH a2 jm6 joz jm6 cyI jnQ jhn cyI jim) := hD
  refine lv_iconst (v := 0) hx hb (qaa qhs 3 rfl) (by decide) ?_
  refine lv_istore_n (lv' := [(3, .int 0), (0, .ref a0), (1, .ref a1), (2, .ref a2)]) hx hb (qaa qhs 4 rfl) rfl hl (by decide) rfl (fun ls hl => ?_)
  obtain ⟨n9, hw⟩ := hw
  exact qazI dC dI cyB cyI cyJ cyP a0 a1 a2 jjN jhX jjO ji2 jhn jm6 jmo jpg jkn jjZ jjP jn2 jm3 jm4 jky jkz jkA jkX jkd jkB jke jnl joz jjm jh5 jkO jnQ Q C0 n9 _ _ _ jh5 jjm 0 (-1) jiL jjH jim 0 hP hD hS (lv_sub hl [1, 2, 0] rfl) hw
theorem qCm : ∀ w ∈ u_ws RX10 TX10 19, w ∈ wsX10_fits := uiM qyx qyE (by decide +kernel)
theorem q7P : ∀ w ∈ u_ws RX3 TX3 11, w ∈ wsX10_fits := uiM qyx euX3 (by decide +kernel)
theorem qauK : (.fieldLink RX10 342 "MarchHares$Fitting" "many" "I" : Cond) ∈ wsX10_fits := qyx 3460 (by decide +kernel)
theorem qaqZ : (.fieldLink RX10 343 "MarchHares$Fitting" "first" "I" : Cond) ∈ wsX10_fits := qyx 3461 (by decide +kernel)
theorem qaxI : (.fieldLink RX10 39 "MarchHares" "lines" "LMarchHares$Book;" : Cond) ∈ wsX10_fits := qyx 70 (by decide +kernel)
theorem qaAP : (.fieldLink RX10 58 "MarchHares" "now" "LMarchHares$Days;" : Cond) ∈ wsX10_fits := qyx 79 (by decide +kernel)
theorem qQj : (.fieldLink RX10 93 "MarchHares" "fitting" "LMarchHares$Fitting;" : Cond) ∈ wsX10_fits := qyx 137 (by decide +kernel)
set_option maxHeartbeats 4000000 in
set_option maxRecDepth 100000 in
theorem qaYP (l : Launch) (dC : Nat → ClassId) (dI : Nat → Nat → Nat) (cyB cyI cyJ cyP : ClassId) (a0 jle jaT jg2 jaR jbb jjI jkf jiM jiE sz : Nat) (jaK jfP ja1 jcp jbc ja3 jbH jbO jaq jac jbI jbl jba jaa jbA jnK jnf jm0 jbr jfc jcB jcC jbo jbp jbk jbj jbe jbq jbi jcd jmr : Value) (jbE jbm : Int32) (jbQ jk5 : NI) (jbz jml jmm jmx jmn : Int32) (jmg jmy jlz : NI) (jmC : Value) (p1 : Int32) {E : String → Int32 → Int32 → Int32 → Int32 → Int32 → NI → NI → NI → Value → Prop} {Q : Int32 → Int32 → Int32 → Int32 → Int32 → Int32 → NI → NI → NI → Value → Prop} (hw : qacp jg2 jbE jbm jbQ jk5 jbz jml jmm jmx jmn jmg jmy jlz jmC p1 E Q) : vx_Met l yX10_fits wsX10_fits ({ frames := 8, cells := 1, slots := 6, locals := 164 }) (va_Pc [.ref a0, .int p1] (cPx l (dC, dI) (kT cyB cyI cyJ cyP) (qMz a0 jaK jfP ja1 jcp jbc jg2 ja3 jbH jaT jbO jaq jac jbI jbl jle jba jaa jbA jbz jle jjI jkf jiE jnK jml jmm jmC jmx jmn jnf jm0 jaT jbb jbr jaR jfc jaR jcB jcC jbo jbp jbk jbj jbe jbq jbE jbm jbi jcd jbb cyI jbQ jjI cyI jmg jkf cyI jmy jg2 jiM jmr jiM cyI jk5 jiE cyI jlz) sz)) (va_Qi (fun (r : Int32) (u : Int32 × Int32 × Int32 × Int32 × Int32 × NI × NI × NI × Value) => Q r u.1 u.2.1 u.2.2.1 u.2.2.2.1 u.2.2.2.2.1 u.2.2.2.2.2.1 u.2.2.2.2.2.2.1 u.2.2.2.2.2.2.2.1 u.2.2.2.2.2.2.2.2) (cB (dC, dI) (kT cyB cyI cyJ cyP) (va_A (qMz a0 jaK jfP ja1 jcp jbc jg2 ja3 jbH jaT jbO jaq jac jbI jbl jle jba jaa jbA jbz jle jjI jkf jiE jnK jml jmm jmC jmx jmn jnf jm0 jaT jbb jbr jaR jfc jaR jcB jcC jbo jbp jbk jbj jbe jbq jbE jbm jbi jcd jbb cyI jbQ jjI cyI jmg jkf cyI jmy jg2 jiM jmr jiM cyI jk5 jiE cyI jlz) sz) (fun u : Int32 × Int32 × Int32 × Int32 × Int32 × NI × NI × NI × Value => ((qMz a0 jaK jfP ja1 jcp jbc jg2 ja3 jbH jaT jbO jaq jac jbI jbl jle jba jaa jbA u.1 jle jjI jkf jiE jnK u.2.1 u.2.2.1 u.2.2.2.2.2.2.2.2 u.2.2.2.1 u.2.2.2.2.1 jnf jm0 jaT jbb jbr jaR jfc jaR jcB jcC jbo jbp jbk jbj jbe jbq jbE jbm jbi jcd jbb cyI jbQ jjI cyI u.2.2.2.2.2.1 jkf cyI u.2.2.2.2.2.2.1 jg2 jiM jmr jiM cyI jk5 jiE cyI u.2.2.2.2.2.2.2.1) : va_W))) (va_A (qMz a0 jaK jfP ja1 jcp jbc jg2 ja3 jbH jaT jbO jaq jac jbI jbl jle jba jaa jbA jbz jle jjI jkf jiE jnK jml jmm jmC jmx jmn jnf jm0 jaT jbb jbr jaR jfc jaR jcB jcC jbo jbp jbk jbj jbe jbq jbE jbm jbi jcd jbb cyI jbQ jjI cyI jmg jkf cyI jmy jg2 jiM jmr jiM cyI jk5 jiE cyI jlz) sz)) (vx_X (fun _ => True) (fun (en : String) (u : Int32 × Int32 × Int32 × Int32 × Int32 × NI × NI × NI × Value) (t : State) => E en u.1 u.2.1 u.2.2.1 u.2.2.2.1 u.2.2.2.2.1 u.2.2.2.2.2.1 u.2.2.2.2.2.2.1 u.2.2.2.2.2.2.2.1 u.2.2.2.2.2.2.2.2 ∧ cB (dC, dI) (kT cyB cyI cyJ cyP) (va_A (qMz a0 jaK jfP ja1 jcp jbc jg2 ja3 jbH jaT jbO jaq jac jbI jbl jle jba jaa jbA jbz jle jjI jkf jiE jnK jml jmm jmC jmx jmn jnf jm0 jaT jbb jbr jaR jfc jaR jcB jcC jbo jbp jbk jbj jbe jbq jbE jbm jbi jcd jbb cyI jbQ jjI cyI jmg jkf cyI jmy jg2 jiM jmr jiM cyI jk5 jiE cyI jlz) sz) (fun u : Int32 × Int32 × Int32 × Int32 × Int32 × NI × NI × NI × Value => ((qMz a0 jaK jfP ja1 jcp jbc jg2 ja3 jbH jaT jbO jaq jac jbI jbl jle jba jaa jbA u.1 jle jjI jkf jiE jnK u.2.1 u.2.2.1 u.2.2.2.2.2.2.2.2 u.2.2.2.1 u.2.2.2.2.1 jnf jm0 jaT jbb jbr jaR jfc jaR jcB jcC jbo jbp jbk jbj jbe jbq jbE jbm jbi jcd jbb cyI jbQ jjI cyI u.2.2.2.2.2.1 jkf cyI u.2.2.2.2.2.2.1 jg2 jiM jmr jiM cyI jk5 jiE cyI u.2.2.2.2.2.2.2.1) : va_W)) u t) (va_A (qMz a0 jaK jfP ja1 jcp jbc jg2 ja3 jbH jaT jbO jaq jac jbI jbl jle jba jaa jbA jbz jle jjI jkf jiE jnK jml jmm jmC jmx jmn jnf jm0 jaT jbb jbr jaR jfc jaR jcB jcC jbo jbp jbk jbj jbe jbq jbE jbm jbi jcd jbb cyI jbQ jjI cyI jmg jkf cyI jmy jg2 jiM jmr jiM cyI jk5 jiE cyI jlz) sz)) 1 6 (va_A (qMz a0 jaK jfP ja1 jcp jbc jg2 ja3 jbH jaT jbO jaq jac jbI jbl jle jba jaa jbA jbz jle jjI jkf jiE jnK jml jmm jmC jmx jmn jnf jm0 jaT jbb jbr jaR jfc jaR jcB jcC jbo jbp jbk jbj jbe jbq jbE jbm jbi jcd jbb cyI jbQ jjI cyI jmg jkf cyI jmy jg2 jiM jmr jiM cyI jk5 jiE cyI jlz) sz) := by
  refine vx_ofW (cc := cX10_fits) (maxL := 2) (ret := (some .int)) (by decide) rfl ?_
  intro p e s m args below meth c s₁ B hml hnt hv
  obtain ⟨rfl, hsz, hP, hK, hD0, hNw, hXl, hXu, hXn, hXt⟩ := hv
  have hx := B.exec
  have hb := B.bytes
  have hr := B.returns
  have hts := atoms_spec (ws := wsX10_fits) B.pre
  have hown : s.vm.findClass RX10 = some m.cls := findClass_of_methodNamed B.named
  have hlocks := B.notSynchronized
  subst hsz
  have hD := hD0.self (sz := s.heap.size)
  generalize hAe : va_A (qMz a0 jaK jfP ja1 jcp jbc jg2 ja3 jbH jaT jbO jaq jac jbI jbl jle jba jaa jbA jbz jle jjI jkf jiE jnK jml jmm jmC jmx jmn jnf jm0 jaT jbb jbr jaR jfc jaR jcB jcC jbo jbp jbk jbj jbe jbq jbE jbm jbi jcd jbb cyI jbQ jjI cyI jmg jkf cyI jmy jg2 jiM jmr jiM cyI jk5 jiE cyI jlz) s.heap.size = A at hD hXu hXn ⊢
  have hA : ∀ q : Nat, s.heap.size ≤ q → A q := fun q h => by rw [← hAe]; exact Or.inr h
  have hS : va_S A s.heap s.heap [] := va_S.rf
  have hP : va_P (dC, dI) vwCl (qMz a0 jaK jfP ja1 jcp jbc jg2 ja3 jbH jaT jbO jaq jac jbI jbl jle jba jaa jbA jbz jle jjI jkf jiE jnK jml jmm jmC jmx jmn jnf jm0 jaT jbb jbr jaR jfc jaR jcB jcC jbo jbp jbk jbj jbe jbq jbE jbm jbi jcd jbb cyI jbQ jjI cyI jmg jkf cyI jmy jg2 jiM jmr jiM cyI jk5 jiE cyI jlz) s.heap := hP
  have hl := lv_entry ([.ref a0, .int p1]) (n := 2) (nbq rfl)
  rw [lg_entry_eq]
  generalize (lg_sl ([.ref a0, .int p1]) ++ List.replicate (2 - (lg_sl ([.ref a0, .int p1])).length) Slot.unset).toArray = ls at hl ⊢
  have hl : lv_has ls 2 [(0, .ref a0), (1, .int p1)] := hl
  have hY : cfY l s A := ⟨hXl, hXu, hXn, hXt⟩
  have hXs : cfX l s c A := ⟨hnt, hY⟩
  have C0 : cfx p s m _ meth c cX10_fits (some .int) wsX10_fits RX10 2 A (dC, dI) (kT cyB cyI cyJ cyP) ∧ cfX l s c A := ⟨⟨hx, hb, hr, hts, hown, hlocks, hml, hA, hK, hNw⟩, hXs⟩
  clear hAe
  obtain ⟨H, hH⟩ : ∃ H, H = s.heap := ⟨_, rfl⟩
  rw [← hH] at hP ⊢
  have hS : va_S A s.heap H [] := by rw [hH]; exact va_S.rf
  have hS := hS
  refine lv_aload_n hx hb (qaa qlH 0 rfl) rfl (lv_at hl 0 rfl) ?_
  refine lv_iload_n hx hb (qaa qlH 1 rfl) rfl (lv_at hl 1 rfl) ?_
  refine lv_iconst (v := 0) hx hb (qaa qlH 2 rfl) (by decide) ?_
  refine lv_iconst (v := 1) hx hb (qaa qlH 3 rfl) (by decide) ?_
  obtain ⟨hCc, hPc, hDc, hFc⟩ := qac (ws' := (qaRP a0 jaK jfP ja1 jcp jbc jg2 ja3 jbH jaT jbO jaq jac jbI jbl jle jba jaa jbA jbz)) hP hD hS hA [0] (by decide +kernel) rfl
  refine vx_callv (vx_runV (As := [.int p1, .int 0, .int 1]) (rest := []) ⟨hx, hb, hml, hown, hts⟩ (qaV l dC dI cyB cyI cyJ cyP a0 H.size (jaK) (jfP) (ja1) (jcp) (jbc) (.ref jg2) (ja3) (jbH) (.ref jaT) (jbO) (jaq) (jac) (jbI) (jbl) (.ref jle) (jba) (jaa) (jbA) jbz p1 0 1 hw) (cwV 3 hts gX10_fits_X10_needWithin rfl rfl rfl (by decide +kernel) ⟨nbq rfl, nbq rfl⟩) ⟨qau, va_recv (q := (RX10, TX10, 19)) hK hPc (ci := 10) (q0 := 0) rfl rfl, qbk hPc hK hDc hNw hY hS hFc⟩ rfl rfl hl.1 rfl (lv_room (nbq rfl)) (qaa qlH 4 rfl) ⟨nbq rfl, nbq rfl⟩) hS (fun q _ h => hFc q h) hFc (fun q _ h => hFc q h) (fun en ce q9 u t H1 locs ht hvm hpx hB hz1 hk1 hS hc9 hv9 hcl9 => ?_) (fun u t H1 locs ht hvm hw hB hz1 hk1 hS => ?_)
  · obtain ⟨x1, rfl⟩ : ∃ z, z = u := ⟨_, rfl⟩
    obtain ⟨hw, hP1, hK1, hD1⟩ := hB
    rw [ht] at hP1
    obtain ⟨hP, hD⟩ := qad (wr := (qJw jle jjI jkf jiE jnK jml jmm jmC jmx jmn jnf jm0 jaT jbb jbr jaR jfc jaR jcB jcC jbo jbp jbk jbj jbe jbq jbE jbm jbi jcd jbb cyI jbQ jjI cyI jmg jkf cyI jmy jg2 jiM jmr jiM cyI jk5 jiE cyI jlz)) (w1 := (qaRP a0 jaK jfP ja1 jcp jbc jg2 ja3 jbH jaT jbO jaq jac jbI jbl jle jba jaa jbA x1)) (wn := (qMz a0 jaK jfP ja1 jcp jbc jg2 ja3 jbH jaT jbO jaq jac jbI jbl jle jba jaa jbA x1 jle jjI jkf jiE jnK jml jmm jmC jmx jmn jnf jm0 jaT jbb jbr jaR jfc jaR jcB jcC jbo jbp jbk jbj jbe jbq jbE jbm jbi jcd jbb cyI jbQ jjI cyI jmg jkf cyI jmy jg2 jiM jmr jiM cyI jk5 jiE cyI jlz)) hP hD [0] [1, 2, 3, 4, 5, 6, 7, 8, 9] [9, 0, 1, 2, 3, 4, 5, 6, 7, 8] hCc rfl (by decide +kernel) (by decide +kernel) (by decide +kernel) rfl hk1 hFc hP1 hD1
    generalize H1 = H at hP hS hc9 ⊢
    exact vx_out (fun x hx9 => (hXs.1 x hx9).elim) hlocks hc9 hv9 hcl9 (fun t2 ht2 hal2 => ⟨(x1, jml, jmm, jmx, jmn, jmg, jmy, jlz, jmC), trivial, ⟨hw, by rw [ht2]; exact hP, va_K.moved hal2 hK, hD⟩, hS.F ht2⟩) hS.2.2 (nbq rfl) (nbq rfl)
  obtain ⟨x1, rfl⟩ : ∃ z, z = u := ⟨_, rfl⟩
  obtain ⟨hP1, hK1, hD1⟩ := hB
  rw [ht] at hP1
  obtain ⟨hP, hD⟩ := qad (wr := (qJw jle jjI jkf jiE jnK jml jmm jmC jmx jmn jnf jm0 jaT jbb jbr jaR jfc jaR jcB jcC jbo jbp jbk jbj jbe jbq jbE jbm jbi jcd jbb cyI jbQ jjI cyI jmg jkf cyI jmy jg2 jiM jmr jiM cyI jk5 jiE cyI jlz)) (w1 := (qaRP a0 jaK jfP ja1 jcp jbc jg2 ja3 jbH jaT jbO jaq jac jbI jbl jle jba jaa jbA x1)) (wn := (qMz a0 jaK jfP ja1 jcp jbc jg2 ja3 jbH jaT jbO jaq jac jbI jbl jle jba jaa jbA x1 jle jjI jkf jiE jnK jml jmm jmC jmx jmn jnf jm0 jaT jbb jbr jaR jfc jaR jcB jcC jbo jbp jbk jbj jbe jbq jbE jbm jbi jcd jbb cyI jbQ jjI cyI jmg jkf cyI jmy jg2 jiM jmr jiM cyI jk5 jiE cyI jlz)) hP hD [0] [1, 2, 3, 4, 5, 6, 7, 8, 9] [9, 0, 1, 2, 3, 4, 5, 6, 7, 8] hCc rfl (by decide +kernel) (by decide +kernel) (by decide +kernel) rfl hk1 hFc hP1 hD1
  generalize H1 = H at hP hS ⊢
  refine lv_aload_n hx hb (qaa qlH 5 rfl) rfl (lv_at hl 0 rfl) ?_
  refine va_get (D := (dC, dI)) (ci := 10) (v := .ref jle) (C := RX10) (T := TX10) (N := 19) hx hb hts qCm hown hK hP 0 rfl rfl 14 (by decide) (hts _ qQj) (fun _ h9 => h9) rfl (qaa qlH 6 rfl) ?_
  refine lv_aload_n hx hb (qaa qlH 7 rfl) rfl (lv_at hl 0 rfl) ?_
  refine va_get (D := (dC, dI)) (ci := 10) (v := .ref jaT) (C := RX10) (T := TX10) (N := 19) hx hb hts qCm hown hK hP 0 rfl rfl 8 (by decide) (hts _ qaAP) (fun _ h9 => h9) rfl (qaa qlH 8 rfl) ?_
  refine lv_aload_n hx hb (qaa qlH 9 rfl) rfl (lv_at hl 0 rfl) ?_
  refine va_get (D := (dC, dI)) (ci := 10) (v := .ref jg2) (C := RX10) (T := TX10) (N := 19) hx hb hts qCm hown hK hP 0 rfl rfl 5 (by decide) (hts _ qaxI) (fun _ h9 => h9) rfl (qaa qlH 10 rfl) ?_
  obtain ⟨hCc, hPc, hDc, hFc⟩ := qac (ws' := (qJw jle jjI jkf jiE jnK jml jmm jmC jmx jmn jnf jm0 jaT jbb jbr jaR jfc jaR jcB jcC jbo jbp jbk jbj jbe jbq jbE jbm jbi jcd jbb cyI jbQ jjI cyI jmg jkf cyI jmy jg2 jiM jmr jiM cyI jk5 jiE cyI jlz)) hP hD hS hA [1, 2, 3, 4, 5, 6, 7, 8, 9] (by decide +kernel) rfl
  refine va_callv (va_runV (As := [.ref jaT, .ref jg2]) (rest := []) ⟨hx, hb, hml, hown, hts⟩ (qan7 l dC dI cyB cyI cyJ cyP jle jaT jg2 jaR jjI jbb jkf jiE jiM H.size (jnK) (jmC) (jnf) (jm0) (jbr) (jfc) (jcB) (jcC) (jbo) (jbp) (jbk) (jbj) (jbe) (jbq) (jbi) (jcd) (jmr) jbE jbm jbQ jk5 jml jmm jmx jmn jmg jmy jlz hw) (cwV 2 hts gX10_fits_X3_settle rfl rfl rfl (by decide +kernel) ⟨nbq rfl, nbq rfl⟩) ⟨qab, va_recv (q := (RX3, TX3, 11)) hK hPc (ci := 3) (q0 := 0) rfl rfl, qae hPc hK hDc hNw⟩ rfl rfl hl.1 rfl (lv_room (nbq rfl)) (qaa qlH 11 rfl) ⟨nbq rfl, nbq rfl⟩) hS (fun q _ h => hFc q h) hFc (fun u t H1 locs ht hvm hw hB hz1 hk1 hS => ?_)
  obtain ⟨x2, x3, x4, x5, f6, f7, f8⟩ := u
  obtain ⟨hP1, hK1, hD1⟩ := hB
  rw [ht] at hP1
  obtain ⟨hP, hD⟩ := qah (wr := (qaRP a0 jaK jfP ja1 jcp jbc jg2 ja3 jbH jaT jbO jaq jac jbI jbl jle jba jaa jbA x1)) (w1 := (qqF jle jjI jkf jiE jnK x2 x3 jg2 x4 x5 jnf jm0 jaT jbb jbr jaR jfc jaR jcB jcC jbo jbp jbk jbj jbe jbq jbE jbm jbi jcd jbb cyI jbQ jjI cyI f6 jkf cyI f7 jg2 jiM jmr jiM cyI jk5 jiE cyI f8)) (wn := (qbgI a0 jaK jfP ja1 jcp jbc jg2 ja3 jbH jaT jbO jaq jac jbI jbl jle jba jaa jbA x1 jle jjI jkf jiE jnK x2 x3 jg2 x4 x5 jnf jm0 jaT jbb jbr jaR jfc jaR jcB jcC jbo jbp jbk jbj jbe jbq jbE jbm jbi jcd jbb cyI jbQ jjI cyI f6 jkf cyI f7 jg2 jiM jmr jiM cyI jk5 jiE cyI f8)) hP hD [1, 2, 3, 4, 5, 6, 7, 8, 9] [0] hCc rfl (by decide +kernel) (by decide +kernel) rfl hk1 hFc hP1 hD1
  generalize H1 = H at hP hS ⊢
  refine lv_iload_n hx hb (qaa qlH 12 rfl) rfl (lv_at hl 1 rfl) ?_
  refine lv_if_ne (tgt := 36) hx hb (qaa qlH 13 rfl) (by decide) (fun c9 => ?_) (fun c9 => ?_)
  · have hw := hw.1 c9
    refine lv_aload_n hx hb (qaa qxK 2 rfl) rfl (lv_at hl 0 rfl) ?_
    refine va_get (D := (dC, dI)) (ci := 10) (v := .ref jle) (C := RX10) (T := TX10) (N := 19) hx hb hts qCm hown hK hP 0 rfl rfl 14 (by decide) (hts _ qQj) (fun _ h9 => h9) rfl (qaa qxK 3 rfl) ?_
    refine va_get (D := (dC, dI)) (ci := 3) (v := .int x5) (C := RX3) (T := TX3) (N := 11) hx hb hts q7P hown hK hP 1 rfl rfl 8 (by decide) (hts _ qaqZ) (fun _ h9 => h9) rfl (qaa qxK 4 rfl) ?_
    exact vx_ret (W.widen (k := 1) (n := 6) (nbq rfl) (nbq rfl) (W.iret (v := x5) hx hb hr (fun t ht hW => ⟨⟨x5, (x1, x2, x3, x4, x5, f6, f7, f8, (.ref jg2)), rfl, hw, by rw [ht]; exact hP, va_K.moved hW.alike hK, hD⟩, hS.F ht⟩) hS.2.2 (qaa qxK 5 rfl)))
  · have hw := hw.2 c9
    refine lv_aload_n hx hb (qaa qlH 14 rfl) rfl (lv_at hl 0 rfl) ?_
    refine va_get (D := (dC, dI)) (ci := 10) (v := .ref jle) (C := RX10) (T := TX10) (N := 19) hx hb hts qCm hown hK hP 0 rfl rfl 14 (by decide) (hts _ qQj) (fun _ h9 => h9) rfl (qaa qlH 15 rfl) ?_
    refine va_get (D := (dC, dI)) (ci := 3) (v := .int x4) (C := RX3) (T := TX3) (N := 11) hx hb hts q7P hown hK hP 1 rfl rfl 7 (by decide) (hts _ qauK) (fun _ h9 => h9) rfl (qaa qxK 0 rfl) ?_
    refine lv_goto (tgt := 43) hx hb (qaa qxK 1 rfl) (by decide) ?_
    exact vx_ret (W.widen (k := 1) (n := 6) (nbq rfl) (nbq rfl) (W.iret (v := x4) hx hb hr (fun t ht hW => ⟨⟨x4, (x1, x2, x3, x4, x5, f6, f7, f8, (.ref jg2)), rfl, hw, by rw [ht]; exact hP, va_K.moved hW.alike hK, hD⟩, hS.F ht⟩) hS.2.2 (qaa qxK 5 rfl)))
theorem qaHE : (.classLink RL 13 "java/lang/IllegalArgumentException" : Cond) ∈ wsL_fits := qauZ 595 (by decide +kernel)
theorem qaUm : (.codeWith yL_fits cL_fits 4 (some .int) [(0, 9, 12, 13)] : Cond) ∈ wsL_fits := qauZ 3415 (by decide +kernel)
set_option maxHeartbeats 4000000 in
set_option maxRecDepth 100000 in
theorem qa3G (l : Launch) (dC : Nat → ClassId) (dI : Nat → Nat → Nat) (cyB cyI cyJ cyP : ClassId) (a0 a2 jle jaT jaR jbb jjI jkf jg2 jiM jiE sz : Nat) (jaK ja1 jcp jbc ja3 jbH jbO jaq jac jbI jbl jba jaa jbA jnK jnf jm0 jbr jfc jcB jcC jbo jbp jbk jbj jbe jbq jbi jcd jmr : Value) (n2 : Nat) (jbE jbm : Int32) (jbQ jk5 : NI) (jbz jml jmm jmx jmn : Int32) (jmg jmy jlz : NI) (jmC : Value) (f2 : Nat → Int64) (p1 : Int32) {Q : Int32 → Int32 → Int32 → Int32 → Int32 → Int32 → NI → NI → NI → Value → (Nat → Int64) → Prop} (hw : qaU6 jg2 n2 jbE jbm jbQ jk5 jbz jml jmm jmx jmn jmg jmy jlz jmC f2 p1 Q) : Met l yL_fits wsL_fits ({ frames := 9, cells := 1, slots := 6, locals := 185 }) (va_Pc [.ref a0, .int p1, .ref a2] (cPx l (dC, dI) (kT cyB cyI cyJ cyP) (qMU a0 jaK jaR ja1 jcp jbc jg2 ja3 jbH jaT jbO jaq jac jbI jbl jle jba jaa jbA jbz jle jjI jkf jiE jnK jml jmm jmC jmx jmn jnf jm0 jaT jbb jbr jaR jfc jaR jcB jcC jbo jbp jbk jbj jbe jbq jbE jbm jbi jcd jbb cyI jbQ jjI cyI jmg jkf cyI jmy jg2 jiM jmr jiM cyI jk5 jiE cyI jlz a2 cyJ n2 f2) sz)) (va_Qi (fun (r : Int32) (u : Int32 × Int32 × Int32 × Int32 × Int32 × NI × NI × NI × Value × (Nat → Int64)) => Q r u.1 u.2.1 u.2.2.1 u.2.2.2.1 u.2.2.2.2.1 u.2.2.2.2.2.1 u.2.2.2.2.2.2.1 u.2.2.2.2.2.2.2.1 u.2.2.2.2.2.2.2.2.1 u.2.2.2.2.2.2.2.2.2) (cB (dC, dI) (kT cyB cyI cyJ cyP) (va_A (qMU a0 jaK jaR ja1 jcp jbc jg2 ja3 jbH jaT jbO jaq jac jbI jbl jle jba jaa jbA jbz jle jjI jkf jiE jnK jml jmm jmC jmx jmn jnf jm0 jaT jbb jbr jaR jfc jaR jcB jcC jbo jbp jbk jbj jbe jbq jbE jbm jbi jcd jbb cyI jbQ jjI cyI jmg jkf cyI jmy jg2 jiM jmr jiM cyI jk5 jiE cyI jlz a2 cyJ n2 f2) sz) (fun u : Int32 × Int32 × Int32 × Int32 × Int32 × NI × NI × NI × Value × (Nat → Int64) => ((qMU a0 jaK jaR ja1 jcp jbc jg2 ja3 jbH jaT jbO jaq jac jbI jbl jle jba jaa jbA u.1 jle jjI jkf jiE jnK u.2.1 u.2.2.1 u.2.2.2.2.2.2.2.2.1 u.2.2.2.1 u.2.2.2.2.1 jnf jm0 jaT jbb jbr jaR jfc jaR jcB jcC jbo jbp jbk jbj jbe jbq jbE jbm jbi jcd jbb cyI jbQ jjI cyI u.2.2.2.2.2.1 jkf cyI u.2.2.2.2.2.2.1 jg2 jiM jmr jiM cyI jk5 jiE cyI u.2.2.2.2.2.2.2.1 a2 cyJ n2 u.2.2.2.2.2.2.2.2.2) : va_W))) (va_A (qMU a0 jaK jaR ja1 jcp jbc jg2 ja3 jbH jaT jbO jaq jac jbI jbl jle jba jaa jbA jbz jle jjI jkf jiE jnK jml jmm jmC jmx jmn jnf jm0 jaT jbb jbr jaR jfc jaR jcB jcC jbo jbp jbk jbj jbe jbq jbE jbm jbi jcd jbb cyI jbQ jjI cyI jmg jkf cyI jmy jg2 jiM jmr jiM cyI jk5 jiE cyI jlz a2 cyJ n2 f2) sz)) 1 6 (va_A (qMU a0 jaK jaR ja1 jcp jbc jg2 ja3 jbH jaT jbO jaq jac jbI jbl jle jba jaa jbA jbz jle jjI jkf jiE jnK jml jmm jmC jmx jmn jnf jm0 jaT jbb jbr jaR jfc jaR jcB jcC jbo jbp jbk jbj jbe jbq jbE jbm jbi jcd jbb cyI jbQ jjI cyI jmg jkf cyI jmy jg2 jiM jmr jiM cyI jk5 jiE cyI jlz a2 cyJ n2 f2) sz) := by
  refine va_MetW (cc := cL_fits) (maxL := 4) (ret := (some .int)) (by decide) rfl ?_
  intro p e s m args below meth c s₁ B hml hv
  obtain ⟨rfl, hsz, hP, hK, hD0, hNw, hXl, hXu, hXn, hXt⟩ := hv
  have hx := B.exec
  have hb := B.bytes
  have hr := B.returns
  have hts := atoms_spec (ws := wsL_fits) B.pre
  have hown : s.vm.findClass RL = some m.cls := findClass_of_methodNamed B.named
  have hlocks := B.notSynchronized
  subst hsz
  have hD := hD0.self (sz := s.heap.size)
  generalize hAe : va_A (qMU a0 jaK jaR ja1 jcp jbc jg2 ja3 jbH jaT jbO jaq jac jbI jbl jle jba jaa jbA jbz jle jjI jkf jiE jnK jml jmm jmC jmx jmn jnf jm0 jaT jbb jbr jaR jfc jaR jcB jcC jbo jbp jbk jbj jbe jbq jbE jbm jbi jcd jbb cyI jbQ jjI cyI jmg jkf cyI jmy jg2 jiM jmr jiM cyI jk5 jiE cyI jlz a2 cyJ n2 f2) s.heap.size = A at hD hXu hXn ⊢
  have hA : ∀ q : Nat, s.heap.size ≤ q → A q := fun q h => by rw [← hAe]; exact Or.inr h
  have hS : va_S A s.heap s.heap [] := va_S.rf
  have hP : va_P (dC, dI) vwCl (qMU a0 jaK jaR ja1 jcp jbc jg2 ja3 jbH jaT jbO jaq jac jbI jbl jle jba jaa jbA jbz jle jjI jkf jiE jnK jml jmm jmC jmx jmn jnf jm0 jaT jbb jbr jaR jfc jaR jcB jcC jbo jbp jbk jbj jbe jbq jbE jbm jbi jcd jbb cyI jbQ jjI cyI jmg jkf cyI jmy jg2 jiM jmr jiM cyI jk5 jiE cyI jlz a2 cyJ n2 f2) s.heap := hP
  have hl := lv_entry ([.ref a0, .int p1, .ref a2]) (n := 4) (nbq rfl)
  rw [lg_entry_eq]
  generalize (lg_sl ([.ref a0, .int p1, .ref a2]) ++ List.replicate (4 - (lg_sl ([.ref a0, .int p1, .ref a2])).length) Slot.unset).toArray = ls at hl ⊢
  have hl : lv_has ls 4 [(0, .ref a0), (1, .int p1), (2, .ref a2)] := hl
  have hY : cfY l s A := ⟨hXl, hXu, hXn, hXt⟩
  have hTb := vx_table (x := yL_fits) B (hts _ qaUm)
  clear hAe
  obtain ⟨H, hH⟩ : ∃ H, H = s.heap := ⟨_, rfl⟩
  rw [← hH] at hP ⊢
  have hS : va_S A s.heap H [] := by rw [hH]; exact va_S.rf
  have hS := hS
  refine lv_aload_n hx hb (qaa qtq 0 rfl) rfl (lv_at hl 2 rfl) ?_
  refine lv_iconst (v := 0) hx hb (qaa qtq 1 rfl) (by decide) ?_
  refine lv_aload_n hx hb (qaa qtq 2 rfl) rfl (lv_at hl 0 rfl) ?_
  refine lv_iload_n hx hb (qaa qtq 3 rfl) rfl (lv_at hl 1 rfl) ?_
  obtain ⟨hCc, hPc, hDc, hFc⟩ := qac (ws' := (qaXW a0 jaK jaR ja1 jcp jbc jg2 ja3 jbH jaT jbO jaq jac jbI jbl jle jba jaa jbA jbz jle jjI jkf jiE jnK jml jmm jmC jmx jmn jnf jm0 jaT jbb jbr jaR jfc jaR jcB jcC jbo jbp jbk jbj jbe jbq jbE jbm jbi jcd jbb cyI jbQ jjI cyI jmg jkf cyI jmy jg2 jiM jmr jiM cyI jk5 jiE cyI jlz)) hP hD hS hA [0, 1, 2, 3, 4, 5, 6, 7, 8, 9] (by decide +kernel) rfl
  refine vx_calli (vx_runV (As := [.int p1]) (rest := [.int 0, .ref a2]) ⟨hx, hb, hml, hown, hts⟩ (qaYP l dC dI cyB cyI cyJ cyP a0 jle jaT jg2 jaR jbb jjI jkf jiM jiE H.size (jaK) (.ref jaR) (ja1) (jcp) (jbc) (ja3) (jbH) (jbO) (jaq) (jac) (jbI) (jbl) (jba) (jaa) (jbA) (jnK) (jnf) (jm0) (jbr) (jfc) (jcB) (jcC) (jbo) (jbp) (jbk) (jbj) (jbe) (jbq) (jbi) (jcd) (jmr) jbE jbm jbQ jk5 jbz jml jmm jmx jmn jmg jmy jlz jmC p1 hw) (cwV 1 hts gL_fits_X10_fits rfl rfl rfl (by decide +kernel) ⟨nbq rfl, nbq rfl⟩) ⟨qau, va_recv (q := (RX10, TX10, 19)) hK hPc (ci := 10) (q0 := 0) rfl rfl, qbk hPc hK hDc hNw hY hS hFc⟩ rfl rfl hl.1 rfl (lv_room (nbq rfl)) (qaa qtq 4 rfl) ⟨nbq rfl, nbq rfl⟩) hS (fun q _ h => hFc q h) hFc (fun q _ h => hFc q h) (fun en ce qx9 u t H1 locs ht hvm hpx hB hz1 hk1 hS hc9 hv9 hcl9 => ?_) (fun r10 u t H1 locs ht hvm hw hB hz1 hk1 hS => ?_)
  · obtain ⟨x1, x2, x3, x4, x5, f6, f7, f8, q9⟩ := u
    obtain ⟨hw, hP1, hK1, hD1⟩ := hB
    rw [ht] at hP1
    obtain ⟨hP, hD⟩ := qad (wr := [(a2, .inl (cyJ, n2, .inr (.inl f2)))]) (w1 := (qaXW a0 jaK jaR ja1 jcp jbc jg2 ja3 jbH jaT jbO jaq jac jbI jbl jle jba jaa jbA x1 jle jjI jkf jiE jnK x2 x3 q9 x4 x5 jnf jm0 jaT jbb jbr jaR jfc jaR jcB jcC jbo jbp jbk jbj jbe jbq jbE jbm jbi jcd jbb cyI jbQ jjI cyI f6 jkf cyI f7 jg2 jiM jmr jiM cyI jk5 jiE cyI f8)) (wn := (qMU a0 jaK jaR ja1 jcp jbc jg2 ja3 jbH jaT jbO jaq jac jbI jbl jle jba jaa jbA x1 jle jjI jkf jiE jnK x2 x3 q9 x4 x5 jnf jm0 jaT jbb jbr jaR jfc jaR jcB jcC jbo jbp jbk jbj jbe jbq jbE jbm jbi jcd jbb cyI jbQ jjI cyI f6 jkf cyI f7 jg2 jiM jmr jiM cyI jk5 jiE cyI f8 a2 cyJ n2 f2)) hP hD [0, 1, 2, 3, 4, 5, 6, 7, 8, 9] [10] [1, 2, 3, 4, 5, 6, 7, 8, 9, 10, 0] hCc rfl (by decide +kernel) (by decide +kernel) (by decide +kernel) rfl hk1 hFc hP1 hD1
    generalize H1 = H at hP hS hc9 ⊢
    obtain ⟨rfl, hw⟩ := hw
    refine vx_catch (own := RL) (name := "java/lang/IllegalArgumentException") hown [] ⟨0, 9, 12, 13⟩ [] (hTb.trans rfl) (fun z hz => nomatch hz) (by decide) (by decide) (hts _ qaHE) (va_Nw.use rfl (hY.2.2.2.1.2 _ (List.mem_of_getElem? (i := 0) rfl))) hc9 hv9 hcl9 ?_
    refine lv_astore_n (lv' := [(3, .ref qx9), (0, .ref a0), (1, .int p1), (2, .ref a2)]) hx hb (qaa qtq 8 rfl) rfl hl (by decide) rfl (fun ls hl => ?_)
    refine lv_iconst (v := 1) hx hb (qaa qtq 9 rfl) (by decide) ?_
    exact (W.widen (k := 1) (n := 6) (nbq rfl) (nbq rfl) (W.iret (v := 1) hx hb hr (fun t ht hW => ⟨⟨1, (x1, x2, x3, x4, x5, f6, f7, f8, q9, f2), rfl, hw, by rw [ht]; exact hP, va_K.moved hW.alike hK, hD⟩, hS.F ht⟩) hS.2.2 (qaa qtq 10 rfl)))
  obtain ⟨x1, x2, x3, x4, x5, f6, f7, f8, q9⟩ := u
  obtain ⟨hP1, hK1, hD1⟩ := hB
  rw [ht] at hP1
  obtain ⟨hP, hD⟩ := va_join (wr := [(a2, .inl (cyJ, n2, .inr (.inl f2)))]) (w1 := (qaXW a0 jaK jaR ja1 jcp jbc jg2 ja3 jbH jaT jbO jaq jac jbI jbl jle jba jaa jbA x1 jle jjI jkf jiE jnK x2 x3 q9 x4 x5 jnf jm0 jaT jbb jbr jaR jfc jaR jcB jcC jbo jbp jbk jbj jbe jbq jbE jbm jbi jcd jbb cyI jbQ jjI cyI f6 jkf cyI f7 jg2 jiM jmr jiM cyI jk5 jiE cyI f8)) hP hD [0, 1, 2, 3, 4, 5, 6, 7, 8, 9] [10] rfl rfl (by decide) (by decide) hk1 hFc hP1 hD1
  have hP : va_P (dC, dI) vwCl (qMU a0 jaK jaR ja1 jcp jbc jg2 ja3 jbH jaT jbO jaq jac jbI jbl jle jba jaa jbA x1 jle jjI jkf jiE jnK x2 x3 q9 x4 x5 jnf jm0 jaT jbb jbr jaR jfc jaR jcB jcC jbo jbp jbk jbj jbe jbq jbE jbm jbi jcd jbb cyI jbQ jjI cyI f6 jkf cyI f7 jg2 jiM jmr jiM cyI jk5 jiE cyI f8 a2 cyJ n2 f2) H1 := hP.sub [1, 2, 3, 4, 5, 6, 7, 8, 9, 10, 0] rfl
  have hD : va_D A (qMU a0 jaK jaR ja1 jcp jbc jg2 ja3 jbH jaT jbO jaq jac jbI jbl jle jba jaa jbA x1 jle jjI jkf jiE jnK x2 x3 q9 x4 x5 jnf jm0 jaT jbb jbr jaR jfc jaR jcB jcC jbo jbp jbk jbj jbe jbq jbE jbm jbi jcd jbb cyI jbQ jjI cyI f6 jkf cyI f7 jg2 jiM jmr jiM cyI jk5 jiE cyI f8 a2 cyJ n2 f2) := hD.sub [1, 2, 3, 4, 5, 6, 7, 8, 9, 10, 0] (by decide) rfl
  generalize H1 = H at hP hS ⊢
  refine lv_i2l (v := r10.toInt64) hx hb (qaa qtq 5 rfl) rfl ?_
  refine lv_topl (fun x11 ex11 => ?_)
  have hw := hw x11 ex11
  obtain ⟨hi9, hw⟩ := hw
  refine va_last hx hb hK hP hD hS 10 2 rfl rfl hi9 (qaa qtq 6 rfl) (fun H locs hP hD hS => ?_)
  obtain ⟨f12, ef12⟩ : ∃ y : Nat → Int64, y = vp_updL f2 (0 : Int32).toNatClampNeg x11 := ⟨_, rfl⟩
  have hw := hw f12 ef12
  have hP : va_P (dC, dI) vwCl (qMU a0 jaK jaR ja1 jcp jbc jg2 ja3 jbH jaT jbO jaq jac jbI jbl jle jba jaa jbA x1 jle jjI jkf jiE jnK x2 x3 q9 x4 x5 jnf jm0 jaT jbb jbr jaR jfc jaR jcB jcC jbo jbp jbk jbj jbe jbq jbE jbm jbi jcd jbb cyI jbQ jjI cyI f6 jkf cyI f7 jg2 jiM jmr jiM cyI jk5 jiE cyI f8 a2 cyJ n2 f12) H := by rw [ef12]; exact hP
  have hD : va_D A (qMU a0 jaK jaR ja1 jcp jbc jg2 ja3 jbH jaT jbO jaq jac jbI jbl jle jba jaa jbA x1 jle jjI jkf jiE jnK x2 x3 q9 x4 x5 jnf jm0 jaT jbb jbr jaR jfc jaR jcB jcC jbo jbp jbk jbj jbe jbq jbE jbm jbi jcd jbb cyI jbQ jjI cyI f6 jkf cyI f7 jg2 jiM jmr jiM cyI jk5 jiE cyI f8 a2 cyJ n2 f12) := by rw [ef12]; exact hD
  refine lv_goto (tgt := 15) hx hb (qaa qtq 7 rfl) (by decide) ?_
  refine lv_iconst (v := 0) hx hb (qaa qtq 11 rfl) (by decide) ?_
  exact (W.widen (k := 1) (n := 6) (nbq rfl) (nbq rfl) (W.iret (v := 0) hx hb hr (fun t ht hW => ⟨⟨0, (x1, x2, x3, x4, x5, f6, f7, f8, q9, f12), rfl, hw, by rw [ht]; exact hP, va_K.moved hW.alike hK, hD⟩, hS.F ht⟩) hS.2.2 (qaa qtq 12 rfl)))
theorem qIb : ∀ w ∈ u_ws RX10 TX10 19, w ∈ wsX10_form := uiM quu qyE (by decide +kernel)
theorem q7F : ∀ w ∈ u_ws RX2 TX2 12, w ∈ wsX10_form := uiM quu qLg (by decide +kernel)
theorem qRa : (.fieldLink RX10 19 "MarchHares" "ground" "LMarchHares$Down;" : Cond) ∈ wsX10_form := quu 20 (by decide +kernel)
theorem qarN : (.fieldLink RX10 212 "MarchHares$Down" "formX" "[I" : Cond) ∈ wsX10_form := quu 2644 (by decide +kernel)
theorem qaqT : (.fieldLink RX10 216 "MarchHares$Down" "formY" "[I" : Cond) ∈ wsX10_form := quu 2645 (by decide +kernel)
theorem qavL : (.fieldLink RX10 58 "MarchHares" "now" "LMarchHares$Days;" : Cond) ∈ wsX10_form := quu 79 (by decide +kernel)
set_option maxHeartbeats 4000000 in
set_option maxRecDepth 100000 in
theorem qaZD (l : Launch) (dC : Nat → ClassId) (dI : Nat → Nat → Nat) (cyB cyI cyJ cyP : ClassId) (a0 jaR jaT jbb jbs jbt sz : Nat) (jaK ja1 jcp jbc jbV ja3 jbH jbO jaq jac jbI jbl jbn jba jaa jbo jbp jbk jbj jbe jbq jbi jbr jfc : Value) (jbE jbm jdB : Int32) (jbQ jci jcj : NI) (jdu jbz p1 p2 : Int32) {E : String → Int32 → Int32 → Prop} {Q : Int32 → Int32 → Int32 → Prop} (hw : q9Q jbE jbm jdB jbQ jci jcj jdu jbz p1 p2 E Q) : vx_Met l yX10_form wsX10_form ({ frames := 8, cells := 2, slots := 12, locals := 164 }) (va_Pc [.ref a0, .int p1, .int p2] (cPx l (dC, dI) (kT cyB cyI cyJ cyP) (qzi a0 jaK jaR ja1 jcp jbc jbV ja3 jbH jaT jbO jaq jac jbI jbl jbn jba jaa jdu jbz jaR jbs jbt jbo jbp jbk jbj jbe jbq jbE jbm jbi jdB jaT jbb jbr jaR jfc jbb cyI jbQ jbs cyI jci jbt cyI jcj) sz)) (va_Qi (fun (r : Int32) (u : Int32 × Int32) => Q r u.1 u.2) (cB (dC, dI) (kT cyB cyI cyJ cyP) (va_A (qzi a0 jaK jaR ja1 jcp jbc jbV ja3 jbH jaT jbO jaq jac jbI jbl jbn jba jaa jdu jbz jaR jbs jbt jbo jbp jbk jbj jbe jbq jbE jbm jbi jdB jaT jbb jbr jaR jfc jbb cyI jbQ jbs cyI jci jbt cyI jcj) sz) (fun u : Int32 × Int32 => ((qzi a0 jaK jaR ja1 jcp jbc jbV ja3 jbH jaT jbO jaq jac jbI jbl jbn jba jaa u.1 u.2 jaR jbs jbt jbo jbp jbk jbj jbe jbq jbE jbm jbi jdB jaT jbb jbr jaR jfc jbb cyI jbQ jbs cyI jci jbt cyI jcj) : va_W))) (va_A (qzi a0 jaK jaR ja1 jcp jbc jbV ja3 jbH jaT jbO jaq jac jbI jbl jbn jba jaa jdu jbz jaR jbs jbt jbo jbp jbk jbj jbe jbq jbE jbm jbi jdB jaT jbb jbr jaR jfc jbb cyI jbQ jbs cyI jci jbt cyI jcj) sz)) (vx_X (fun _ => True) (fun (en : String) (u : Int32 × Int32) (t : State) => E en u.1 u.2 ∧ cB (dC, dI) (kT cyB cyI cyJ cyP) (va_A (qzi a0 jaK jaR ja1 jcp jbc jbV ja3 jbH jaT jbO jaq jac jbI jbl jbn jba jaa jdu jbz jaR jbs jbt jbo jbp jbk jbj jbe jbq jbE jbm jbi jdB jaT jbb jbr jaR jfc jbb cyI jbQ jbs cyI jci jbt cyI jcj) sz) (fun u : Int32 × Int32 => ((qzi a0 jaK jaR ja1 jcp jbc jbV ja3 jbH jaT jbO jaq jac jbI jbl jbn jba jaa u.1 u.2 jaR jbs jbt jbo jbp jbk jbj jbe jbq jbE jbm jbi jdB jaT jbb jbr jaR jfc jbb cyI jbQ jbs cyI jci jbt cyI jcj) : va_W)) u t) (va_A (qzi a0 jaK jaR ja1 jcp jbc jbV ja3 jbH jaT jbO jaq jac jbI jbl jbn jba jaa jdu jbz jaR jbs jbt jbo jbp jbk jbj jbe jbq jbE jbm jbi jdB jaT jbb jbr jaR jfc jbb cyI jbQ jbs cyI jci jbt cyI jcj) sz)) 2 12 (va_A (qzi a0 jaK jaR ja1 jcp jbc jbV ja3 jbH jaT jbO jaq jac jbI jbl jbn jba jaa jdu jbz jaR jbs jbt jbo jbp jbk jbj jbe jbq jbE jbm jbi jdB jaT jbb jbr jaR jfc jbb cyI jbQ jbs cyI jci jbt cyI jcj) sz) := by
  refine vx_ofW (cc := cX10_form) (maxL := 3) (ret := (some .int)) (by decide) rfl ?_
  intro p e s m args below meth c s₁ B hml hnt hv
  obtain ⟨rfl, hsz, hP, hK, hD0, hNw, hXl, hXu, hXn, hXt⟩ := hv
  have hx := B.exec
  have hb := B.bytes
  have hr := B.returns
  have hts := atoms_spec (ws := wsX10_form) B.pre
  have hown : s.vm.findClass RX10 = some m.cls := findClass_of_methodNamed B.named
  have hlocks := B.notSynchronized
  subst hsz
  have hD := hD0.self (sz := s.heap.size)
  generalize hAe : va_A (qzi a0 jaK jaR ja1 jcp jbc jbV ja3 jbH jaT jbO jaq jac jbI jbl jbn jba jaa jdu jbz jaR jbs jbt jbo jbp jbk jbj jbe jbq jbE jbm jbi jdB jaT jbb jbr jaR jfc jbb cyI jbQ jbs cyI jci jbt cyI jcj) s.heap.size = A at hD hXu hXn ⊢
  have hA : ∀ q : Nat, s.heap.size ≤ q → A q := fun q h => by rw [← hAe]; exact Or.inr h
  have hS : va_S A s.heap s.heap [] := va_S.rf
  have hP : va_P (dC, dI) vwCl (qzi a0 jaK jaR ja1 jcp jbc jbV ja3 jbH jaT jbO jaq jac jbI jbl jbn jba jaa jdu jbz jaR jbs jbt jbo jbp jbk jbj jbe jbq jbE jbm jbi jdB jaT jbb jbr jaR jfc jbb cyI jbQ jbs cyI jci jbt cyI jcj) s.heap := hP
  have hl := lv_entry ([.ref a0, .int p1, .int p2]) (n := 3) (nbq rfl)
  rw [lg_entry_eq]
  generalize (lg_sl ([.ref a0, .int p1, .int p2]) ++ List.replicate (3 - (lg_sl ([.ref a0, .int p1, .int p2])).length) Slot.unset).toArray = ls at hl ⊢
  have hl : lv_has ls 3 [(0, .ref a0), (1, .int p1), (2, .int p2)] := hl
  have hY : cfY l s A := ⟨hXl, hXu, hXn, hXt⟩
  have hXs : cfX l s c A := ⟨hnt, hY⟩
  have C0 : cfx p s m _ meth c cX10_form (some .int) wsX10_form RX10 3 A (dC, dI) (kT cyB cyI cyJ cyP) ∧ cfX l s c A := ⟨⟨hx, hb, hr, hts, hown, hlocks, hml, hA, hK, hNw⟩, hXs⟩
  clear hAe
  obtain ⟨H, hH⟩ : ∃ H, H = s.heap := ⟨_, rfl⟩
  rw [← hH] at hP ⊢
  have hS : va_S A s.heap H [] := by rw [hH]; exact va_S.rf
  have hS := hS
  refine lv_aload_n hx hb (qaa qu9 0 rfl) rfl (lv_at hl 0 rfl) ?_
  refine lv_iload_n hx hb (qaa qu9 1 rfl) rfl (lv_at hl 1 rfl) ?_
  obtain ⟨hCc, hPc, hDc, hFc⟩ := qac (ws' := (qaYn a0 jaK jaR ja1 jcp jbc jbV ja3 jbH jaT jbO jaq jac jbI jbl jbn jba jaa jdu jbz jaR jbs jbt jbo jbp jbk jbj jbe jbq jbE jbm jbi jdB)) hP hD hS hA [0, 1] (by decide +kernel) rfl
  refine vx_callv (vx_runV (As := [.int p1]) (rest := []) ⟨hx, hb, hml, hown, hts⟩ (qyK l dC dI cyB cyI cyJ cyP a0 jaR H.size (jaK) (ja1) (jcp) (jbc) (jbV) (ja3) (jbH) (.ref jaT) (jbO) (jaq) (jac) (jbI) (jbl) (jbn) (jba) (jaa) (.int jbz) (.ref jbs) (.ref jbt) (jbo) (jbp) (jbk) (jbj) (jbe) (jbq) (.int jbm) (jbi) (.int jdB) jbE jdu p1 hw) (cwV 1 hts gX10_form_X10_needForm rfl rfl rfl (by decide +kernel) ⟨nbq rfl, nbq rfl⟩) ⟨qau, va_recv (q := (RX10, TX10, 19)) hK hPc (ci := 10) (q0 := 0) rfl rfl, qbk hPc hK hDc hNw hY hS hFc⟩ rfl rfl hl.1 rfl (lv_room (nbq rfl)) (qaa qu9 2 rfl) ⟨nbq rfl, nbq rfl⟩) hS (fun q _ h => hFc q h) hFc (fun q _ h => hFc q h) (fun en ce q9 u t H1 locs ht hvm hpx hB hz1 hk1 hS hc9 hv9 hcl9 => ?_) (fun u t H1 locs ht hvm hw hB hz1 hk1 hS => ?_)
  · obtain ⟨x1, rfl⟩ : ∃ z, z = u := ⟨_, rfl⟩
    obtain ⟨hw, hP1, hK1, hD1⟩ := hB
    rw [ht] at hP1
    obtain ⟨hP, hD⟩ := qad (wr := (qa5D jaT jbb jbr jaR jfc jbb cyI jbQ jbs cyI jci jbt cyI jcj)) (w1 := (qaYn a0 jaK jaR ja1 jcp jbc jbV ja3 jbH jaT jbO jaq jac jbI jbl jbn jba jaa x1 jbz jaR jbs jbt jbo jbp jbk jbj jbe jbq jbE jbm jbi jdB)) (wn := (qzi a0 jaK jaR ja1 jcp jbc jbV ja3 jbH jaT jbO jaq jac jbI jbl jbn jba jaa x1 jbz jaR jbs jbt jbo jbp jbk jbj jbe jbq jbE jbm jbi jdB jaT jbb jbr jaR jfc jbb cyI jbQ jbs cyI jci jbt cyI jcj)) hP hD [0, 1] [2, 3, 4, 5] [4, 5, 0, 1, 2, 3] hCc rfl (by decide +kernel) (by decide +kernel) (by decide +kernel) rfl hk1 hFc hP1 hD1
    generalize H1 = H at hP hS hc9 ⊢
    exact vx_out (fun x hx9 => (hXs.1 x hx9).elim) hlocks hc9 hv9 hcl9 (fun t2 ht2 hal2 => ⟨(x1, jbz), trivial, ⟨hw, by rw [ht2]; exact hP, va_K.moved hal2 hK, hD⟩, hS.F ht2⟩) hS.2.2 (nbq rfl) (nbq rfl)
  obtain ⟨x1, rfl⟩ : ∃ z, z = u := ⟨_, rfl⟩
  obtain ⟨hP1, hK1, hD1⟩ := hB
  rw [ht] at hP1
  obtain ⟨hP, hD⟩ := qad (wr := (qa5D jaT jbb jbr jaR jfc jbb cyI jbQ jbs cyI jci jbt cyI jcj)) (w1 := (qaYn a0 jaK jaR ja1 jcp jbc jbV ja3 jbH jaT jbO jaq jac jbI jbl jbn jba jaa x1 jbz jaR jbs jbt jbo jbp jbk jbj jbe jbq jbE jbm jbi jdB)) (wn := (qzi a0 jaK jaR ja1 jcp jbc jbV ja3 jbH jaT jbO jaq jac jbI jbl jbn jba jaa x1 jbz jaR jbs jbt jbo jbp jbk jbj jbe jbq jbE jbm jbi jdB jaT jbb jbr jaR jfc jbb cyI jbQ jbs cyI jci jbt cyI jcj)) hP hD [0, 1] [2, 3, 4, 5] [4, 5, 0, 1, 2, 3] hCc rfl (by decide +kernel) (by decide +kernel) (by decide +kernel) rfl hk1 hFc hP1 hD1
  generalize H1 = H at hP hS ⊢
  refine lv_aload_n hx hb (qaa qu9 3 rfl) rfl (lv_at hl 0 rfl) ?_
  refine lv_iload_n hx hb (qaa qu9 4 rfl) rfl (lv_at hl 2 rfl) ?_
  refine lv_iconst (v := 0) hx hb (qaa qu9 5 rfl) (by decide) ?_
  refine lv_iconst (v := 3) hx hb (qaa qu9 6 rfl) (by decide) ?_
  obtain ⟨hCc, hPc, hDc, hFc⟩ := qac (ws' := (qaiu a0 jaK jaR ja1 jcp jbc jbV ja3 jbH jaT jbO jaq jac jbI jbl jbn jba jaa x1 jbz)) hP hD hS hA [0] (by decide +kernel) rfl
  refine vx_callv (vx_runV (As := [.int p2, .int 0, .int 3]) (rest := []) ⟨hx, hb, hml, hown, hts⟩ (qaV l dC dI cyB cyI cyJ cyP a0 H.size (jaK) (.ref jaR) (ja1) (jcp) (jbc) (jbV) (ja3) (jbH) (.ref jaT) (jbO) (jaq) (jac) (jbI) (jbl) (jbn) (jba) (jaa) (.int x1) jbz p2 0 3 hw) (cwV 3 hts gX10_form_X10_needWithin rfl rfl rfl (by decide +kernel) ⟨nbq rfl, nbq rfl⟩) ⟨qau, va_recv (q := (RX10, TX10, 19)) hK hPc (ci := 10) (q0 := 0) rfl rfl, qbk hPc hK hDc hNw hY hS hFc⟩ rfl rfl hl.1 rfl (lv_room (nbq rfl)) (qaa qu9 7 rfl) ⟨nbq rfl, nbq rfl⟩) hS (fun q _ h => hFc q h) hFc (fun q _ h => hFc q h) (fun en ce q9 u t H1 locs ht hvm hpx hB hz1 hk1 hS hc9 hv9 hcl9 => ?_) (fun u t H1 locs ht hvm hw hB hz1 hk1 hS => ?_)
  · obtain ⟨x2, rfl⟩ : ∃ z, z = u := ⟨_, rfl⟩
    obtain ⟨hw, hP1, hK1, hD1⟩ := hB
    rw [ht] at hP1
    obtain ⟨hP, hD⟩ := qad (wr := (qa72 jaR jbs jbt jbo jbp jbk jbj jbe jbq jbE jbm jbi jdB jaT jbb jbr jaR jfc jbb cyI jbQ jbs cyI jci jbt cyI jcj)) (w1 := (qaiu a0 jaK jaR ja1 jcp jbc jbV ja3 jbH jaT jbO jaq jac jbI jbl jbn jba jaa x1 x2)) (wn := (qzi a0 jaK jaR ja1 jcp jbc jbV ja3 jbH jaT jbO jaq jac jbI jbl jbn jba jaa x1 x2 jaR jbs jbt jbo jbp jbk jbj jbe jbq jbE jbm jbi jdB jaT jbb jbr jaR jfc jbb cyI jbQ jbs cyI jci jbt cyI jcj)) hP hD [0] [1, 2, 3, 4, 5] [5, 0, 1, 2, 3, 4] hCc rfl (by decide +kernel) (by decide +kernel) (by decide +kernel) rfl hk1 hFc hP1 hD1
    generalize H1 = H at hP hS hc9 ⊢
    exact vx_out (fun x hx9 => (hXs.1 x hx9).elim) hlocks hc9 hv9 hcl9 (fun t2 ht2 hal2 => ⟨(x1, x2), trivial, ⟨hw, by rw [ht2]; exact hP, va_K.moved hal2 hK, hD⟩, hS.F ht2⟩) hS.2.2 (nbq rfl) (nbq rfl)
  obtain ⟨x2, rfl⟩ : ∃ z, z = u := ⟨_, rfl⟩
  obtain ⟨hP1, hK1, hD1⟩ := hB
  rw [ht] at hP1
  obtain ⟨hP, hD⟩ := qad (wr := (qa72 jaR jbs jbt jbo jbp jbk jbj jbe jbq jbE jbm jbi jdB jaT jbb jbr jaR jfc jbb cyI jbQ jbs cyI jci jbt cyI jcj)) (w1 := (qaiu a0 jaK jaR ja1 jcp jbc jbV ja3 jbH jaT jbO jaq jac jbI jbl jbn jba jaa x1 x2)) (wn := (qzi a0 jaK jaR ja1 jcp jbc jbV ja3 jbH jaT jbO jaq jac jbI jbl jbn jba jaa x1 x2 jaR jbs jbt jbo jbp jbk jbj jbe jbq jbE jbm jbi jdB jaT jbb jbr jaR jfc jbb cyI jbQ jbs cyI jci jbt cyI jcj)) hP hD [0] [1, 2, 3, 4, 5] [5, 0, 1, 2, 3, 4] hCc rfl (by decide +kernel) (by decide +kernel) (by decide +kernel) rfl hk1 hFc hP1 hD1
  generalize H1 = H at hP hS ⊢
  refine lv_iload_n hx hb (qaa qu9 8 rfl) rfl (lv_at hl 2 rfl) ?_
  by_cases c3 : p2.toInt < 0 ∨ 2 < p2.toInt
  · have hw := hw.1 c3
    refine lv_tableOut (tgt := 77) hx hb dX10_form_13 c3 (by decide) ?_
    refine lv_aload_n hx hb (qaa qqz 5 rfl) rfl (lv_at hl 0 rfl) ?_
    refine va_get (D := (dC, dI)) (ci := 10) (v := .ref jaT) (C := RX10) (T := TX10) (N := 19) hx hb hts qIb hown hK hP 0 rfl rfl 8 (by decide) (hts _ qavL) (fun _ h9 => h9) rfl (qaa qqz 6 rfl) ?_
    refine lv_iload_n hx hb (qaa qqz 7 rfl) rfl (lv_at hl 1 rfl) ?_
    obtain ⟨hCc, hPc, hDc, hFc⟩ := qac (ws' := (qa3y jaT jbb jbr jaR jfc jaR jbs jbt jbo jbp jbk jbj jbe jbq jbE jbm jbi jdB jbb cyI jbQ)) hP hD hS hA [2, 1, 3] (by decide +kernel) rfl
    refine va_calli (va_runV (As := [.int p1]) (rest := []) ⟨hx, hb, hml, hown, hts⟩ (qTQ l dC dI cyB cyI cyJ cyP jaT jaR jbb H.size (jbr) (jfc) (.ref jbs) (.ref jbt) (jbo) (jbp) (jbk) (jbj) (jbe) (jbq) (.int jbE) (jbi) (.int jdB) jbm jbQ p1 hw) (cwV 1 hts gX10_form_X1_seatedIn rfl rfl rfl (by decide +kernel) ⟨nbq rfl, nbq rfl⟩) ⟨qab, va_recv (q := (RX1, TX1, 4)) hK hPc (ci := 1) (q0 := 0) rfl rfl, qae hPc hK hDc hNw⟩ rfl rfl hl.1 rfl (lv_room (nbq rfl)) (qaa qqz 8 rfl) ⟨nbq rfl, nbq rfl⟩) hS (fun q _ h => hFc q h) hFc (fun r4 u t H1 locs ht hvm hw hB hz1 hk1 hS => ?_)
    obtain ⟨hP1, hK1, hD1⟩ := hB
    rw [ht] at hP1
    obtain ⟨hP, hD⟩ := qad (wr := [(a0, .inr (10, [jaK, .ref jaR, ja1, jcp, jbc, jbV, ja3, jbH, .ref jaT, jbO, jaq, jac, jbI, jbl, jbn, jba, jaa, .int x1, .int x2])), (jbs, .inl (cyI, 8, .inl jci)), (jbt, .inl (cyI, 8, .inl jcj))]) (w1 := (qa3y jaT jbb jbr jaR jfc jaR jbs jbt jbo jbp jbk jbj jbe jbq jbE jbm jbi jdB jbb cyI jbQ)) (wn := (qzi a0 jaK jaR ja1 jcp jbc jbV ja3 jbH jaT jbO jaq jac jbI jbl jbn jba jaa x1 x2 jaR jbs jbt jbo jbp jbk jbj jbe jbq jbE jbm jbi jdB jaT jbb jbr jaR jfc jbb cyI jbQ jbs cyI jci jbt cyI jcj)) hP hD [2, 1, 3] [0, 4, 5] [0, 4, 3, 5, 1, 2] hCc rfl (by decide +kernel) (by decide +kernel) (by decide +kernel) rfl hk1 hFc hP1 hD1
    generalize H1 = H at hP hS ⊢
    exact vx_ret (W.widen (k := 2) (n := 12) (nbq rfl) (nbq rfl) (W.iret (v := r4) hx hb hr (fun t ht hW => ⟨⟨r4, (x1, x2), rfl, hw, by rw [ht]; exact hP, va_K.moved hW.alike hK, hD⟩, hS.F ht⟩) hS.2.2 (qaa qqz 9 rfl)))
  · have hw := hw.2
    rcases qayU c3 with c3 | c3 | c3
    · have hw := hw.1 c3
      refine lv_tableIn (tgt := 40) (off := 27) hx hb dX10_form_13 (by rw [c3]; decide) (by rw [c3]; decide) (by rw [c3]; decide) (by decide) ?_
      refine lv_aload_n hx hb (qaa qku 0 rfl) rfl (lv_at hl 0 rfl) ?_
      refine va_get (D := (dC, dI)) (ci := 10) (v := .ref jaR) (C := RX10) (T := TX10) (N := 19) hx hb hts qIb hown hK hP 0 rfl rfl 1 (by decide) (hts _ qRa) (fun _ h9 => h9) rfl (qaa qku 1 rfl) ?_
      refine va_get (D := (dC, dI)) (ci := 2) (v := .ref jbs) (C := RX2) (T := TX2) (N := 12) hx hb hts q7F hown hK hP 1 rfl rfl 0 (by decide) (hts _ qarN) (fun _ h9 => h9) rfl (qaa qku 2 rfl) ?_
      refine lv_iload_n hx hb (qaa qku 3 rfl) rfl (lv_at hl 1 rfl) ?_
      obtain ⟨hi9, hw⟩ := hw
      refine va_iald hx hb hK hP 4 1 rfl rfl hi9 (qaa qku 4 rfl) ?_
      refine lv_topi (fun x5 ex5 => ?_)
      have hw := hw x5 ex5
      exact vx_ret (W.widen (k := 2) (n := 12) (nbq rfl) (nbq rfl) (W.iret (v := x5) hx hb hr (fun t ht hW => ⟨⟨x5, (x1, x2), rfl, hw, by rw [ht]; exact hP, va_K.moved hW.alike hK, hD⟩, hS.F ht⟩) hS.2.2 (qaa qku 5 rfl)))
    · have hw := hw.2.1 c3
      refine lv_tableIn (tgt := 50) (off := 37) hx hb dX10_form_13 (by rw [c3]; decide) (by rw [c3]; decide) (by rw [c3]; decide) (by decide) ?_
      refine lv_aload_n hx hb (qaa qku 6 rfl) rfl (lv_at hl 0 rfl) ?_
      refine va_get (D := (dC, dI)) (ci := 10) (v := .ref jaR) (C := RX10) (T := TX10) (N := 19) hx hb hts qIb hown hK hP 0 rfl rfl 1 (by decide) (hts _ qRa) (fun _ h9 => h9) rfl (qaa qku 7 rfl) ?_
      refine va_get (D := (dC, dI)) (ci := 2) (v := .ref jbt) (C := RX2) (T := TX2) (N := 12) hx hb hts q7F hown hK hP 1 rfl rfl 1 (by decide) (hts _ qaqT) (fun _ h9 => h9) rfl (qaa qku 8 rfl) ?_
      refine lv_iload_n hx hb (qaa qku 9 rfl) rfl (lv_at hl 1 rfl) ?_
      obtain ⟨hi9, hw⟩ := hw
      refine va_iald hx hb hK hP 5 1 rfl rfl hi9 (qaa qku 10 rfl) ?_
      refine lv_topi (fun x6 ex6 => ?_)
      have hw := hw x6 ex6
      exact vx_ret (W.widen (k := 2) (n := 12) (nbq rfl) (nbq rfl) (W.iret (v := x6) hx hb hr (fun t ht hW => ⟨⟨x6, (x1, x2), rfl, hw, by rw [ht]; exact hP, va_K.moved hW.alike hK, hD⟩, hS.F ht⟩) hS.2.2 (qaa qku 11 rfl)))
    · have hw := hw.2.2 c3
      refine lv_tableIn (tgt := 60) (off := 47) hx hb dX10_form_13 (by rw [c3]; decide) (by rw [c3]; decide) (by rw [c3]; decide) (by decide) ?_
      refine lv_aload_n hx hb (qaa qku 12 rfl) rfl (lv_at hl 0 rfl) ?_
      refine va_get (D := (dC, dI)) (ci := 10) (v := .ref jaR) (C := RX10) (T := TX10) (N := 19) hx hb hts qIb hown hK hP 0 rfl rfl 1 (by decide) (hts _ qRa) (fun _ h9 => h9) rfl (qaa qku 13 rfl) ?_
      refine lv_iload_n hx hb (qaa qku 14 rfl) rfl (lv_at hl 1 rfl) ?_
      obtain ⟨hCc, hPc, hDc, hFc⟩ := qac (ws' := (qa9a jaR jbs jbt jbo jbp jbk jbj jbe jbq jbE jbm jbi jdB)) hP hD hS hA [1] (by decide +kernel) rfl
      refine va_calli (va_runV (As := [.int p1]) (rest := []) ⟨hx, hb, hml, hown, hts⟩ (q2J l dC dI cyB cyI cyJ cyP jaR H.size (.ref jbs) (.ref jbt) (jbo) (jbp) (jbk) (jbj) (jbe) (jbq) (.int jbE) (.int jbm) (jbi) jdB p1 hw) (cwV 1 hts gX10_form_X2_isSafe rfl rfl rfl (by decide +kernel) ⟨nbq rfl, nbq rfl⟩) ⟨qab, va_recv (q := (RX2, TX2, 12)) hK hPc (ci := 2) (q0 := 0) rfl rfl, qae hPc hK hDc hNw⟩ rfl rfl hl.1 rfl (lv_room (nbq rfl)) (qaa qku 15 rfl) ⟨nbq rfl, nbq rfl⟩) hS (fun q _ h => hFc q h) hFc (fun r7 u t H1 locs ht hvm hw hB hz1 hk1 hS => ?_)
      obtain ⟨hP1, hK1, hD1⟩ := hB
      rw [ht] at hP1
      obtain ⟨hP, hD⟩ := qad (wr := [(a0, .inr (10, [jaK, .ref jaR, ja1, jcp, jbc, jbV, ja3, jbH, .ref jaT, jbO, jaq, jac, jbI, jbl, jbn, jba, jaa, .int x1, .int x2])), (jaT, .inr (1, [.ref jbb, jbr, .ref jaR, jfc])), (jbb, .inl (cyI, 64, .inl jbQ)), (jbs, .inl (cyI, 8, .inl jci)), (jbt, .inl (cyI, 8, .inl jcj))]) (w1 := (qa9a jaR jbs jbt jbo jbp jbk jbj jbe jbq jbE jbm jbi jdB)) (wn := (qzi a0 jaK jaR ja1 jcp jbc jbV ja3 jbH jaT jbO jaq jac jbI jbl jbn jba jaa x1 x2 jaR jbs jbt jbo jbp jbk jbj jbe jbq jbE jbm jbi jdB jaT jbb jbr jaR jfc jbb cyI jbQ jbs cyI jci jbt cyI jcj)) hP hD [1] [0, 2, 3, 4, 5] [0, 5, 1, 2, 3, 4] hCc rfl (by decide +kernel) (by decide +kernel) (by decide +kernel) rfl hk1 hFc hP1 hD1
      generalize H1 = H at hP hS ⊢
      refine lv_if_eq (tgt := 75) hx hb (qaa qqz 0 rfl) (by decide) (fun c8 => ?_) (fun c8 => ?_)
      · have hw := hw.1 c8
        refine lv_iconst (v := 0) hx hb (qaa qqz 3 rfl) (by decide) ?_
        exact vx_ret (W.widen (k := 2) (n := 12) (nbq rfl) (nbq rfl) (W.iret (v := 0) hx hb hr (fun t ht hW => ⟨⟨0, (x1, x2), rfl, hw, by rw [ht]; exact hP, va_K.moved hW.alike hK, hD⟩, hS.F ht⟩) hS.2.2 (qaa qqz 4 rfl)))
      · have hw := hw.2 c8
        refine lv_iconst (v := 1) hx hb (qaa qqz 1 rfl) (by decide) ?_
        refine lv_goto (tgt := 76) hx hb (qaa qqz 2 rfl) (by decide) ?_
        exact vx_ret (W.widen (k := 2) (n := 12) (nbq rfl) (nbq rfl) (W.iret (v := 1) hx hb hr (fun t ht hW => ⟨⟨1, (x1, x2), rfl, hw, by rw [ht]; exact hP, va_K.moved hW.alike hK, hD⟩, hS.F ht⟩) hS.2.2 (qaa qqz 4 rfl)))
theorem qaGk : (.classLink RL 13 "java/lang/IllegalArgumentException" : Cond) ∈ wsL_form := qadY 595 (by decide +kernel)
theorem q7U : (.classLink RL 31 "java/util/NoSuchElementException" : Cond) ∈ wsL_form := qadY 2639 (by decide +kernel)
theorem qaU4 : (.codeWith yL_form cL_form 5 (some .int) [(0, 10, 13, 31), (0, 10, 17, 13)] : Cond) ∈ wsL_form := qadY 2638 (by decide +kernel)
set_option maxHeartbeats 4000000 in
set_option maxRecDepth 100000 in
theorem qa4T (l : Launch) (dC : Nat → ClassId) (dI : Nat → Nat → Nat) (cyB cyI cyJ cyP : ClassId) (a0 a3 jaR jaT jbb jbs jbt sz : Nat) (jaK ja1 jcp jbc jbV ja3 jbH jbO jaq jac jbI jbl jbn jba jaa jbo jbp jbk jbj jbe jbq jbi jbr jfc : Value) (n3 : Nat) (jbE jbm jdB : Int32) (jbQ jci jcj : NI) (jdu jbz : Int32) (f3 : Nat → Int64) (p1 p2 : Int32) {Q : Int32 → Int32 → Int32 → (Nat → Int64) → Prop} (hw : qaVO n3 jbE jbm jdB jbQ jci jcj jdu jbz f3 p1 p2 Q) : Met l yL_form wsL_form ({ frames := 9, cells := 2, slots := 12, locals := 186 }) (va_Pc [.ref a0, .int p1, .int p2, .ref a3] (cPx l (dC, dI) (kT cyB cyI cyJ cyP) (qMD a0 jaK jaR ja1 jcp jbc jbV ja3 jbH jaT jbO jaq jac jbI jbl jbn jba jaa jdu jbz jaR jbs jbt jbo jbp jbk jbj jbe jbq jbE jbm jbi jdB jaT jbb jbr jaR jfc jbb cyI jbQ jbs cyI jci jbt cyI jcj a3 cyJ n3 f3) sz)) (va_Qi (fun (r : Int32) (u : Int32 × Int32 × (Nat → Int64)) => Q r u.1 u.2.1 u.2.2) (cB (dC, dI) (kT cyB cyI cyJ cyP) (va_A (qMD a0 jaK jaR ja1 jcp jbc jbV ja3 jbH jaT jbO jaq jac jbI jbl jbn jba jaa jdu jbz jaR jbs jbt jbo jbp jbk jbj jbe jbq jbE jbm jbi jdB jaT jbb jbr jaR jfc jbb cyI jbQ jbs cyI jci jbt cyI jcj a3 cyJ n3 f3) sz) (fun u : Int32 × Int32 × (Nat → Int64) => ((qMD a0 jaK jaR ja1 jcp jbc jbV ja3 jbH jaT jbO jaq jac jbI jbl jbn jba jaa u.1 u.2.1 jaR jbs jbt jbo jbp jbk jbj jbe jbq jbE jbm jbi jdB jaT jbb jbr jaR jfc jbb cyI jbQ jbs cyI jci jbt cyI jcj a3 cyJ n3 u.2.2) : va_W))) (va_A (qMD a0 jaK jaR ja1 jcp jbc jbV ja3 jbH jaT jbO jaq jac jbI jbl jbn jba jaa jdu jbz jaR jbs jbt jbo jbp jbk jbj jbe jbq jbE jbm jbi jdB jaT jbb jbr jaR jfc jbb cyI jbQ jbs cyI jci jbt cyI jcj a3 cyJ n3 f3) sz)) 2 12 (va_A (qMD a0 jaK jaR ja1 jcp jbc jbV ja3 jbH jaT jbO jaq jac jbI jbl jbn jba jaa jdu jbz jaR jbs jbt jbo jbp jbk jbj jbe jbq jbE jbm jbi jdB jaT jbb jbr jaR jfc jbb cyI jbQ jbs cyI jci jbt cyI jcj a3 cyJ n3 f3) sz) := by
  refine va_MetW (cc := cL_form) (maxL := 5) (ret := (some .int)) (by decide) rfl ?_
  intro p e s m args below meth c s₁ B hml hv
  obtain ⟨rfl, hsz, hP, hK, hD0, hNw, hXl, hXu, hXn, hXt⟩ := hv
  have hx := B.exec
  have hb := B.bytes
  have hr := B.returns
  have hts := atoms_spec (ws := wsL_form) B.pre
  have hown : s.vm.findClass RL = some m.cls := findClass_of_methodNamed B.named
  have hlocks := B.notSynchronized
  subst hsz
  have hD := hD0.self (sz := s.heap.size)
  generalize hAe : va_A (qMD a0 jaK jaR ja1 jcp jbc jbV ja3 jbH jaT jbO jaq jac jbI jbl jbn jba jaa jdu jbz jaR jbs jbt jbo jbp jbk jbj jbe jbq jbE jbm jbi jdB jaT jbb jbr jaR jfc jbb cyI jbQ jbs cyI jci jbt cyI jcj a3 cyJ n3 f3) s.heap.size = A at hD hXu hXn ⊢
  have hA : ∀ q : Nat, s.heap.size ≤ q → A q := fun q h => by rw [← hAe]; exact Or.inr h
  have hS : va_S A s.heap s.heap [] := va_S.rf
  have hP : va_P (dC, dI) vwCl (qMD a0 jaK jaR ja1 jcp jbc jbV ja3 jbH jaT jbO jaq jac jbI jbl jbn jba jaa jdu jbz jaR jbs jbt jbo jbp jbk jbj jbe jbq jbE jbm jbi jdB jaT jbb jbr jaR jfc jbb cyI jbQ jbs cyI jci jbt cyI jcj a3 cyJ n3 f3) s.heap := hP
  have hl := lv_entry ([.ref a0, .int p1, .int p2, .ref a3]) (n := 5) (nbq rfl)
  rw [lg_entry_eq]
  generalize (lg_sl ([.ref a0, .int p1, .int p2, .ref a3]) ++ List.replicate (5 - (lg_sl ([.ref a0, .int p1, .int p2, .ref a3])).length) Slot.unset).toArray = ls at hl ⊢
  have hl : lv_has ls 5 [(0, .ref a0), (1, .int p1), (2, .int p2), (3, .ref a3)] := hl
  have hY : cfY l s A := ⟨hXl, hXu, hXn, hXt⟩
  have hTb := vx_table (x := yL_form) B (hts _ qaU4)
  clear hAe
  obtain ⟨H, hH⟩ : ∃ H, H = s.heap := ⟨_, rfl⟩
  rw [← hH] at hP ⊢
  have hS : va_S A s.heap H [] := by rw [hH]; exact va_S.rf
  have hS := hS
  refine lv_aload_n hx hb (qaa qp7 0 rfl) rfl (lv_at hl 3 rfl) ?_
  refine lv_iconst (v := 0) hx hb (qaa qp7 1 rfl) (by decide) ?_
  refine lv_aload_n hx hb (qaa qp7 2 rfl) rfl (lv_at hl 0 rfl) ?_
  refine lv_iload_n hx hb (qaa qp7 3 rfl) rfl (lv_at hl 1 rfl) ?_
  refine lv_iload_n hx hb (qaa qp7 4 rfl) rfl (lv_at hl 2 rfl) ?_
  obtain ⟨hCc, hPc, hDc, hFc⟩ := qac (ws' := (qzi a0 jaK jaR ja1 jcp jbc jbV ja3 jbH jaT jbO jaq jac jbI jbl jbn jba jaa jdu jbz jaR jbs jbt jbo jbp jbk jbj jbe jbq jbE jbm jbi jdB jaT jbb jbr jaR jfc jbb cyI jbQ jbs cyI jci jbt cyI jcj)) hP hD hS hA [0, 1, 2, 3, 4, 5] (by decide +kernel) rfl
  refine vx_calli (vx_runV (As := [.int p1, .int p2]) (rest := [.int 0, .ref a3]) ⟨hx, hb, hml, hown, hts⟩ (qaZD l dC dI cyB cyI cyJ cyP a0 jaR jaT jbb jbs jbt H.size (jaK) (ja1) (jcp) (jbc) (jbV) (ja3) (jbH) (jbO) (jaq) (jac) (jbI) (jbl) (jbn) (jba) (jaa) (jbo) (jbp) (jbk) (jbj) (jbe) (jbq) (jbi) (jbr) (jfc) jbE jbm jdB jbQ jci jcj jdu jbz p1 p2 hw) (cwV 2 hts gL_form_X10_form rfl rfl rfl (by decide +kernel) ⟨nbq rfl, nbq rfl⟩) ⟨qau, va_recv (q := (RX10, TX10, 19)) hK hPc (ci := 10) (q0 := 0) rfl rfl, qbk hPc hK hDc hNw hY hS hFc⟩ rfl rfl hl.1 rfl (lv_room (nbq rfl)) (qaa qp7 5 rfl) ⟨nbq rfl, nbq rfl⟩) hS (fun q _ h => hFc q h) hFc (fun q _ h => hFc q h) (fun en ce qx9 u t H1 locs ht hvm hpx hB hz1 hk1 hS hc9 hv9 hcl9 => ?_) (fun r3 u t H1 locs ht hvm hw hB hz1 hk1 hS => ?_)
  · obtain ⟨x1, x2⟩ := u
    obtain ⟨hw, hP1, hK1, hD1⟩ := hB
    rw [ht] at hP1
    obtain ⟨hP, hD⟩ := qad (wr := [(a3, .inl (cyJ, n3, .inr (.inl f3)))]) (w1 := (qzi a0 jaK jaR ja1 jcp jbc jbV ja3 jbH jaT jbO jaq jac jbI jbl jbn jba jaa x1 x2 jaR jbs jbt jbo jbp jbk jbj jbe jbq jbE jbm jbi jdB jaT jbb jbr jaR jfc jbb cyI jbQ jbs cyI jci jbt cyI jcj)) (wn := (qMD a0 jaK jaR ja1 jcp jbc jbV ja3 jbH jaT jbO jaq jac jbI jbl jbn jba jaa x1 x2 jaR jbs jbt jbo jbp jbk jbj jbe jbq jbE jbm jbi jdB jaT jbb jbr jaR jfc jbb cyI jbQ jbs cyI jci jbt cyI jcj a3 cyJ n3 f3)) hP hD [0, 1, 2, 3, 4, 5] [6] [1, 2, 3, 4, 5, 6, 0] hCc rfl (by decide +kernel) (by decide +kernel) (by decide +kernel) rfl hk1 hFc hP1 hD1
    generalize H1 = H at hP hS hc9 ⊢
    rcases hw with ⟨rfl, hw⟩ | ⟨rfl, hw⟩
    · refine vx_catch (own := RL) (name := "java/util/NoSuchElementException") hown [] ⟨0, 10, 13, 31⟩ [⟨0, 10, 17, 13⟩] (hTb.trans rfl) (fun z hz => nomatch hz) (by decide) (by decide) (hts _ q7U) (va_Nw.use rfl (hY.2.2.2.1.2 _ (List.mem_of_getElem? (i := 1) rfl))) hc9 hv9 hcl9 ?_
      refine lv_astore (lv' := [(4, .ref qx9), (0, .ref a0), (1, .int p1), (2, .int p2), (3, .ref a3)]) hx hb (qaa qp7 9 rfl) hl (by decide) rfl (fun ls hl => ?_)
      refine lv_iconst (v := 1) hx hb (qaa qp7 10 rfl) (by decide) ?_
      exact (W.widen (k := 2) (n := 12) (nbq rfl) (nbq rfl) (W.iret (v := 1) hx hb hr (fun t ht hW => ⟨⟨1, (x1, x2, f3), rfl, hw, by rw [ht]; exact hP, va_K.moved hW.alike hK, hD⟩, hS.F ht⟩) hS.2.2 (qaa qp7 11 rfl)))
    · refine vx_catch (own := RL) (name := "java/lang/IllegalArgumentException") hown [⟨0, 10, 13, 31⟩] ⟨0, 10, 17, 13⟩ [] (hTb.trans rfl) (fun z hz => by rw [List.mem_singleton.mp hz]; exact Or.inr ⟨by decide, _, (hts _ q7U), hY.2.2.2.2.2⟩) (by decide) (by decide) (hts _ qaGk) (va_Nw.use rfl (hY.2.2.2.1.2 _ (List.mem_of_getElem? (i := 0) rfl))) hc9 hv9 hcl9 ?_
      refine lv_astore (lv' := [(4, .ref qx9), (0, .ref a0), (1, .int p1), (2, .int p2), (3, .ref a3)]) hx hb (qaa qp7 12 rfl) hl (by decide) rfl (fun ls hl => ?_)
      refine lv_iconst (v := 2) hx hb (qaa qp7 13 rfl) (by decide) ?_
      exact (W.widen (k := 2) (n := 12) (nbq rfl) (nbq rfl) (W.iret (v := 2) hx hb hr (fun t ht hW => ⟨⟨2, (x1, x2, f3), rfl, hw, by rw [ht]; exact hP, va_K.moved hW.alike hK, hD⟩, hS.F ht⟩) hS.2.2 (qaa qp7 14 rfl)))
  obtain ⟨x1, x2⟩ := u
  obtain ⟨hP1, hK1, hD1⟩ := hB
  rw [ht] at hP1
  obtain ⟨hP, hD⟩ := va_join (wr := [(a3, .inl (cyJ, n3, .inr (.inl f3)))]) (w1 := (qzi a0 jaK jaR ja1 jcp jbc jbV ja3 jbH jaT jbO jaq jac jbI jbl jbn jba jaa x1 x2 jaR jbs jbt jbo jbp jbk jbj jbe jbq jbE jbm jbi jdB jaT jbb jbr jaR jfc jbb cyI jbQ jbs cyI jci jbt cyI jcj)) hP hD [0, 1, 2, 3, 4, 5] [6] rfl rfl (by decide) (by decide) hk1 hFc hP1 hD1
  have hP : va_P (dC, dI) vwCl (qMD a0 jaK jaR ja1 jcp jbc jbV ja3 jbH jaT jbO jaq jac jbI jbl jbn jba jaa x1 x2 jaR jbs jbt jbo jbp jbk jbj jbe jbq jbE jbm jbi jdB jaT jbb jbr jaR jfc jbb cyI jbQ jbs cyI jci jbt cyI jcj a3 cyJ n3 f3) H1 := hP.sub [1, 2, 3, 4, 5, 6, 0] rfl
  have hD : va_D A (qMD a0 jaK jaR ja1 jcp jbc jbV ja3 jbH jaT jbO jaq jac jbI jbl jbn jba jaa x1 x2 jaR jbs jbt jbo jbp jbk jbj jbe jbq jbE jbm jbi jdB jaT jbb jbr jaR jfc jbb cyI jbQ jbs cyI jci jbt cyI jcj a3 cyJ n3 f3) := hD.sub [1, 2, 3, 4, 5, 6, 0] (by decide) rfl
  generalize H1 = H at hP hS ⊢
  refine lv_i2l (v := r3.toInt64) hx hb (qaa qp7 6 rfl) rfl ?_
  refine lv_topl (fun x4 ex4 => ?_)
  have hw := hw x4 ex4
  obtain ⟨hi9, hw⟩ := hw
  refine va_last hx hb hK hP hD hS 6 2 rfl rfl hi9 (qaa qp7 7 rfl) (fun H locs hP hD hS => ?_)
  obtain ⟨f5, ef5⟩ : ∃ y : Nat → Int64, y = vp_updL f3 (0 : Int32).toNatClampNeg x4 := ⟨_, rfl⟩
  have hw := hw f5 ef5
  have hP : va_P (dC, dI) vwCl (qMD a0 jaK jaR ja1 jcp jbc jbV ja3 jbH jaT jbO jaq jac jbI jbl jbn jba jaa x1 x2 jaR jbs jbt jbo jbp jbk jbj jbe jbq jbE jbm jbi jdB jaT jbb jbr jaR jfc jbb cyI jbQ jbs cyI jci jbt cyI jcj a3 cyJ n3 f5) H := by rw [ef5]; exact hP
  have hD : va_D A (qMD a0 jaK jaR ja1 jcp jbc jbV ja3 jbH jaT jbO jaq jac jbI jbl jbn jba jaa x1 x2 jaR jbs jbt jbo jbp jbk jbj jbe jbq jbE jbm jbi jdB jaT jbb jbr jaR jfc jbb cyI jbQ jbs cyI jci jbt cyI jcj a3 cyJ n3 f5) := by rw [ef5]; exact hD
  refine lv_goto (tgt := 21) hx hb (qaa qp7 8 rfl) (by decide) ?_
  refine lv_iconst (v := 0) hx hb (qaa qp7 15 rfl) (by decide) ?_
  exact (W.widen (k := 2) (n := 12) (nbq rfl) (nbq rfl) (W.iret (v := 0) hx hb hr (fun t ht hW => ⟨⟨0, (x1, x2, f5), rfl, hw, by rw [ht]; exact hP, va_K.moved hW.alike hK, hD⟩, hS.F ht⟩) hS.2.2 (qaa qaVW 0 rfl)))
theorem qaFU : ∀ w ∈ (qqA RX10 268 "java/util/NoSuchElementException" 13 qxN ["java/lang/RuntimeException", "java/lang/Exception"]).filter (fun w => !goodWord w), w ∈ xB := by decide +kernel
theorem qaK2 : ∀ w ∈ Cond.classLink RX10 264 "java/util/NoSuchElementException" :: Cond.initialized "java/util/NoSuchElementException" :: qqA RX10 268 "java/util/NoSuchElementException" 13 qxN ["java/lang/RuntimeException", "java/lang/Exception"], vx_ot w = true := by decide +kernel
theorem qaFA : ∀ w ∈ (qqA RX10 268 "java/util/NoSuchElementException" 13 qxN ["java/lang/RuntimeException", "java/lang/Exception"]).filter goodWord, w ∈ wsX10_fox := by decide +kernel
theorem qD1 : ∀ w ∈ u_ws RX10 TX10 19, w ∈ wsX10_fox := uiM qy0 qyE (by decide +kernel)
theorem qYc : ∀ w ∈ u_ws RX2 TX2 12, w ∈ wsX10_fox := uiM qy0 qLg (by decide +kernel)
theorem qaui : (.classLink RX10 264 "java/util/NoSuchElementException" : Cond) ∈ wsX10_fox := qy0 2690 (by decide +kernel)
theorem qaDX : (.fieldLink RX10 184 "MarchHares$Down" "foxes" "I" : Cond) ∈ wsX10_fox := qy0 2516 (by decide +kernel)
theorem qS9 : (.fieldLink RX10 19 "MarchHares" "ground" "LMarchHares$Down;" : Cond) ∈ wsX10_fox := qy0 20 (by decide +kernel)
theorem q2j : (.fieldLink RX10 261 "MarchHares" "callsNoSuch" "I" : Cond) ∈ wsX10_fox := qy0 2692 (by decide +kernel)
theorem qaxd : (.fieldLink RX10 271 "MarchHares$Down" "foxX" "[I" : Cond) ∈ wsX10_fox := qy0 2818 (by decide +kernel)
theorem qax6 : (.fieldLink RX10 274 "MarchHares$Down" "foxY" "[I" : Cond) ∈ wsX10_fox := qy0 2819 (by decide +kernel)
theorem qamM : (.initialized "java/util/NoSuchElementException" : Cond) ∈ wsX10_fox := qy0 2691 (by decide +kernel)
set_option maxHeartbeats 4000000 in
set_option maxRecDepth 100000 in
theorem qa1Y (l : Launch) (dC : Nat → ClassId) (dI : Nat → Nat → Nat) (cyB cyI cyJ cyP : ClassId) (a0 jaR jmt jmu sz : Nat) (jaK ja1 jcp jbc jbV ja3 jbH ja2 jbO jaq jac jbI jbl jbn jba jaa jcB jcC jbk jbj jbe jbq jef jgP jcd : Value) (jls : Int32) (jnF jnG : NI) (jbz jdu p1 p2 : Int32) {E : String → Int32 → Int32 → Prop} {Q : Int32 → Int32 → Int32 → Prop} (hw : qamT jls jnF jnG jbz jdu p1 p2 E Q) : vx_Met l yX10_fox wsX10_fox ({ frames := 8, cells := 1, slots := 6, locals := 164 }) (va_Pc [.ref a0, .int p1, .int p2] (cPx l (dC, dI) (kT cyB cyI cyJ cyP) (qzb a0 jaK jaR ja1 jcp jbc jbV ja3 jbH ja2 jbO jaq jac jbI jbl jbn jba jaa jdu jbz jaR jcB jcC jmu jmt jbk jbj jbe jbq jef jgP jls jcd jmt cyI jnF jmu cyI jnG) sz)) (va_Qi (fun (r : Int32) (u : Int32 × Int32) => Q r u.1 u.2) (cB (dC, dI) (kT cyB cyI cyJ cyP) (va_A (qzb a0 jaK jaR ja1 jcp jbc jbV ja3 jbH ja2 jbO jaq jac jbI jbl jbn jba jaa jdu jbz jaR jcB jcC jmu jmt jbk jbj jbe jbq jef jgP jls jcd jmt cyI jnF jmu cyI jnG) sz) (fun u : Int32 × Int32 => ((qzb a0 jaK jaR ja1 jcp jbc jbV ja3 jbH ja2 jbO jaq jac jbI jbl jbn jba jaa u.2 u.1 jaR jcB jcC jmu jmt jbk jbj jbe jbq jef jgP jls jcd jmt cyI jnF jmu cyI jnG) : va_W))) (va_A (qzb a0 jaK jaR ja1 jcp jbc jbV ja3 jbH ja2 jbO jaq jac jbI jbl jbn jba jaa jdu jbz jaR jcB jcC jmu jmt jbk jbj jbe jbq jef jgP jls jcd jmt cyI jnF jmu cyI jnG) sz)) (vx_X (fun _ => True) (fun (en : String) (u : Int32 × Int32) (t : State) => E en u.1 u.2 ∧ cB (dC, dI) (kT cyB cyI cyJ cyP) (va_A (qzb a0 jaK jaR ja1 jcp jbc jbV ja3 jbH ja2 jbO jaq jac jbI jbl jbn jba jaa jdu jbz jaR jcB jcC jmu jmt jbk jbj jbe jbq jef jgP jls jcd jmt cyI jnF jmu cyI jnG) sz) (fun u : Int32 × Int32 => ((qzb a0 jaK jaR ja1 jcp jbc jbV ja3 jbH ja2 jbO jaq jac jbI jbl jbn jba jaa u.2 u.1 jaR jcB jcC jmu jmt jbk jbj jbe jbq jef jgP jls jcd jmt cyI jnF jmu cyI jnG) : va_W)) u t) (va_A (qzb a0 jaK jaR ja1 jcp jbc jbV ja3 jbH ja2 jbO jaq jac jbI jbl jbn jba jaa jdu jbz jaR jcB jcC jmu jmt jbk jbj jbe jbq jef jgP jls jcd jmt cyI jnF jmu cyI jnG) sz)) 1 6 (va_A (qzb a0 jaK jaR ja1 jcp jbc jbV ja3 jbH ja2 jbO jaq jac jbI jbl jbn jba jaa jdu jbz jaR jcB jcC jmu jmt jbk jbj jbe jbq jef jgP jls jcd jmt cyI jnF jmu cyI jnG) sz) := by
  refine vx_ofW (cc := cX10_fox) (maxL := 3) (ret := (some .int)) (by decide) rfl ?_
  intro p e s m args below meth c s₁ B hml hnt hv
  obtain ⟨rfl, hsz, hP, hK, hD0, hNw, hXl, hXu, hXn, hXt⟩ := hv
  have hx := B.exec
  have hb := B.bytes
  have hr := B.returns
  have hts := atoms_spec (ws := wsX10_fox) B.pre
  have hown : s.vm.findClass RX10 = some m.cls := findClass_of_methodNamed B.named
  have hlocks := B.notSynchronized
  subst hsz
  have hD := hD0.self (sz := s.heap.size)
  generalize hAe : va_A (qzb a0 jaK jaR ja1 jcp jbc jbV ja3 jbH ja2 jbO jaq jac jbI jbl jbn jba jaa jdu jbz jaR jcB jcC jmu jmt jbk jbj jbe jbq jef jgP jls jcd jmt cyI jnF jmu cyI jnG) s.heap.size = A at hD hXu hXn ⊢
  have hA : ∀ q : Nat, s.heap.size ≤ q → A q := fun q h => by rw [← hAe]; exact Or.inr h
  have hS : va_S A s.heap s.heap [] := va_S.rf
  have hP : va_P (dC, dI) vwCl (qzb a0 jaK jaR ja1 jcp jbc jbV ja3 jbH ja2 jbO jaq jac jbI jbl jbn jba jaa jdu jbz jaR jcB jcC jmu jmt jbk jbj jbe jbq jef jgP jls jcd jmt cyI jnF jmu cyI jnG) s.heap := hP
  have hl := lv_entry ([.ref a0, .int p1, .int p2]) (n := 3) (nbq rfl)
  rw [lg_entry_eq]
  generalize (lg_sl ([.ref a0, .int p1, .int p2]) ++ List.replicate (3 - (lg_sl ([.ref a0, .int p1, .int p2])).length) Slot.unset).toArray = ls at hl ⊢
  have hl : lv_has ls 3 [(0, .ref a0), (1, .int p1), (2, .int p2)] := hl
  have hY : cfY l s A := ⟨hXl, hXu, hXn, hXt⟩
  have hXs : cfX l s c A := ⟨hnt, hY⟩
  have C0 : cfx p s m _ meth c cX10_fox (some .int) wsX10_fox RX10 3 A (dC, dI) (kT cyB cyI cyJ cyP) ∧ cfX l s c A := ⟨⟨hx, hb, hr, hts, hown, hlocks, hml, hA, hK, hNw⟩, hXs⟩
  clear hAe
  obtain ⟨H, hH⟩ : ∃ H, H = s.heap := ⟨_, rfl⟩
  rw [← hH] at hP ⊢
  have hS : va_S A s.heap H [] := by rw [hH]; exact va_S.rf
  have hS := hS
  refine lv_iload_n hx hb (qaa qoo 0 rfl) rfl (lv_at hl 1 rfl) ?_
  refine lv_iconst (v := 0) hx hb (qaa qoo 1 rfl) (by decide) ?_
  refine lv_aload_n hx hb (qaa qoo 2 rfl) rfl (lv_at hl 0 rfl) ?_
  refine va_get (D := (dC, dI)) (ci := 10) (v := .ref jaR) (C := RX10) (T := TX10) (N := 19) hx hb hts qD1 hown hK hP 0 rfl rfl 1 (by decide) (hts _ qS9) (fun _ h9 => h9) rfl (qaa qoo 3 rfl) ?_
  refine va_get (D := (dC, dI)) (ci := 2) (v := .int jls) (C := RX2) (T := TX2) (N := 12) hx hb hts qYc hown hK hP 1 rfl rfl 10 (by decide) (hts _ qaDX) (fun _ h9 => h9) rfl (qaa qoo 4 rfl) ?_
  refine lv_iconst (v := 1) hx hb (qaa qoo 5 rfl) (by decide) ?_
  refine lv_isub hx hb (qaa qoo 6 rfl) ?_
  obtain ⟨hCc, hPc, hDc, hFc⟩ := qac (ws' := []) hP hD hS hA [] (by decide +kernel) rfl
  refine va_calli (va_runS (As := [.int p1, .int 0, .int (jls - 1)]) (rest := []) ⟨hx, hb, hml, hown, hts⟩ (qzJ l dC dI cyB cyI cyJ cyP H.size p1 0 (jls - 1) hw) (va_cwS 3 hts gX10_fox_X10_within rfl rfl rfl (by decide +kernel) ⟨nbq rfl, nbq rfl⟩) ⟨qab, qae hPc hK hDc hNw⟩ rfl rfl hl.1 rfl (lv_room (nbq rfl)) (qaa qoo 7 rfl) ⟨nbq rfl, nbq rfl⟩) hS (fun q _ h => hFc q h) hFc (fun r1 u t H1 locs ht hvm hw hB hz1 hk1 hS => ?_)
  obtain ⟨hP1, hK1, hD1⟩ := hB
  rw [ht] at hP1
  obtain ⟨hP, hD⟩ := qah (wr := (qzb a0 jaK jaR ja1 jcp jbc jbV ja3 jbH ja2 jbO jaq jac jbI jbl jbn jba jaa jdu jbz jaR jcB jcC jmu jmt jbk jbj jbe jbq jef jgP jls jcd jmt cyI jnF jmu cyI jnG)) (w1 := []) (wn := (qzb a0 jaK jaR ja1 jcp jbc jbV ja3 jbH ja2 jbO jaq jac jbI jbl jbn jba jaa jdu jbz jaR jcB jcC jmu jmt jbk jbj jbe jbq jef jgP jls jcd jmt cyI jnF jmu cyI jnG)) hP hD [] [0, 1, 2, 3] hCc rfl (by decide +kernel) (by decide +kernel) rfl hk1 hFc hP1 hD1
  generalize H1 = H at hP hS ⊢
  refine lv_if_ne (tgt := 38) hx hb (qaa qoo 8 rfl) (by decide) (fun c2 => ?_) (fun c2 => ?_)
  · have hw := hw.1 c2
    refine lv_aload_n hx hb (qaa qmm 4 rfl) rfl (lv_at hl 0 rfl) ?_
    refine lv_iload_n hx hb (qaa qmm 5 rfl) rfl (lv_at hl 2 rfl) ?_
    refine lv_iconst (v := 0) hx hb (qaa qmm 6 rfl) (by decide) ?_
    refine lv_iconst (v := 1) hx hb (qaa qmm 7 rfl) (by decide) ?_
    obtain ⟨hCc, hPc, hDc, hFc⟩ := qac (ws' := (qaZw a0 jaK jaR ja1 jcp jbc jbV ja3 jbH ja2 jbO jaq jac jbI jbl jbn jba jaa jdu jbz)) hP hD hS hA [0] (by decide +kernel) rfl
    refine vx_callv (vx_runV (As := [.int p2, .int 0, .int 1]) (rest := []) ⟨hx, hb, hml, hown, hts⟩ (qaV l dC dI cyB cyI cyJ cyP a0 H.size (jaK) (.ref jaR) (ja1) (jcp) (jbc) (jbV) (ja3) (jbH) (ja2) (jbO) (jaq) (jac) (jbI) (jbl) (jbn) (jba) (jaa) (.int jdu) jbz p2 0 1 hw) (cwV 3 hts gX10_fox_X10_needWithin rfl rfl rfl (by decide +kernel) ⟨nbq rfl, nbq rfl⟩) ⟨qau, va_recv (q := (RX10, TX10, 19)) hK hPc (ci := 10) (q0 := 0) rfl rfl, qbk hPc hK hDc hNw hY hS hFc⟩ rfl rfl hl.1 rfl (lv_room (nbq rfl)) (qaa qmm 8 rfl) ⟨nbq rfl, nbq rfl⟩) hS (fun q _ h => hFc q h) hFc (fun q _ h => hFc q h) (fun en ce q9 u t H1 locs ht hvm hpx hB hz1 hk1 hS hc9 hv9 hcl9 => ?_) (fun u t H1 locs ht hvm hw hB hz1 hk1 hS => ?_)
    · obtain ⟨x3, rfl⟩ : ∃ z, z = u := ⟨_, rfl⟩
      obtain ⟨hw, hP1, hK1, hD1⟩ := hB
      rw [ht] at hP1
      obtain ⟨hP, hD⟩ := qad (wr := (qa4X jaR jcB jcC jmu jmt jbk jbj jbe jbq jef jgP jls jcd jmt cyI jnF jmu cyI jnG)) (w1 := (qaZw a0 jaK jaR ja1 jcp jbc jbV ja3 jbH ja2 jbO jaq jac jbI jbl jbn jba jaa jdu x3)) (wn := (qzb a0 jaK jaR ja1 jcp jbc jbV ja3 jbH ja2 jbO jaq jac jbI jbl jbn jba jaa jdu x3 jaR jcB jcC jmu jmt jbk jbj jbe jbq jef jgP jls jcd jmt cyI jnF jmu cyI jnG)) hP hD [0] [1, 2, 3] [3, 0, 1, 2] hCc rfl (by decide +kernel) (by decide +kernel) (by decide +kernel) rfl hk1 hFc hP1 hD1
      generalize H1 = H at hP hS hc9 ⊢
      exact vx_out (fun x hx9 => (hXs.1 x hx9).elim) hlocks hc9 hv9 hcl9 (fun t2 ht2 hal2 => ⟨(x3, jdu), trivial, ⟨hw, by rw [ht2]; exact hP, va_K.moved hal2 hK, hD⟩, hS.F ht2⟩) hS.2.2 (nbq rfl) (nbq rfl)
    obtain ⟨x3, rfl⟩ : ∃ z, z = u := ⟨_, rfl⟩
    obtain ⟨hP1, hK1, hD1⟩ := hB
    rw [ht] at hP1
    obtain ⟨hP, hD⟩ := qad (wr := (qa4X jaR jcB jcC jmu jmt jbk jbj jbe jbq jef jgP jls jcd jmt cyI jnF jmu cyI jnG)) (w1 := (qaZw a0 jaK jaR ja1 jcp jbc jbV ja3 jbH ja2 jbO jaq jac jbI jbl jbn jba jaa jdu x3)) (wn := (qzb a0 jaK jaR ja1 jcp jbc jbV ja3 jbH ja2 jbO jaq jac jbI jbl jbn jba jaa jdu x3 jaR jcB jcC jmu jmt jbk jbj jbe jbq jef jgP jls jcd jmt cyI jnF jmu cyI jnG)) hP hD [0] [1, 2, 3] [3, 0, 1, 2] hCc rfl (by decide +kernel) (by decide +kernel) (by decide +kernel) rfl hk1 hFc hP1 hD1
    generalize H1 = H at hP hS ⊢
    refine lv_iload_n hx hb (qaa qmm 9 rfl) rfl (lv_at hl 2 rfl) ?_
    refine lv_if_ne (tgt := 61) hx hb (qaa qmm 10 rfl) (by decide) (fun c4 => ?_) (fun c4 => ?_)
    · have hw := hw.1 c4
      refine lv_aload_n hx hb (qaa qw4 1 rfl) rfl (lv_at hl 0 rfl) ?_
      refine va_get (D := (dC, dI)) (ci := 10) (v := .ref jaR) (C := RX10) (T := TX10) (N := 19) hx hb hts qD1 hown hK hP 0 rfl rfl 1 (by decide) (hts _ qS9) (fun _ h9 => h9) rfl (qaa qw4 2 rfl) ?_
      refine va_get (D := (dC, dI)) (ci := 2) (v := .ref jmt) (C := RX2) (T := TX2) (N := 12) hx hb hts qYc hown hK hP 1 rfl rfl 3 (by decide) (hts _ qax6) (fun _ h9 => h9) rfl (qaa qw4 3 rfl) ?_
      refine lv_iload_n hx hb (qaa qw4 4 rfl) rfl (lv_at hl 1 rfl) ?_
      obtain ⟨hi9, hw⟩ := hw
      refine va_iald hx hb hK hP 2 1 rfl rfl hi9 (qaa qw4 5 rfl) ?_
      refine lv_topi (fun x5 ex5 => ?_)
      have hw := hw x5 ex5
      exact vx_ret (W.widen (k := 1) (n := 6) (nbq rfl) (nbq rfl) (W.iret (v := x5) hx hb hr (fun t ht hW => ⟨⟨x5, (x3, jdu), rfl, hw, by rw [ht]; exact hP, va_K.moved hW.alike hK, hD⟩, hS.F ht⟩) hS.2.2 (qaa qw4 6 rfl)))
    · have hw := hw.2 c4
      refine lv_aload_n hx hb (qaa qmm 11 rfl) rfl (lv_at hl 0 rfl) ?_
      refine va_get (D := (dC, dI)) (ci := 10) (v := .ref jaR) (C := RX10) (T := TX10) (N := 19) hx hb hts qD1 hown hK hP 0 rfl rfl 1 (by decide) (hts _ qS9) (fun _ h9 => h9) rfl (qaa qmm 12 rfl) ?_
      refine va_get (D := (dC, dI)) (ci := 2) (v := .ref jmu) (C := RX2) (T := TX2) (N := 12) hx hb hts qYc hown hK hP 1 rfl rfl 2 (by decide) (hts _ qaxd) (fun _ h9 => h9) rfl (qaa qmm 13 rfl) ?_
      refine lv_iload_n hx hb (qaa qmm 14 rfl) rfl (lv_at hl 1 rfl) ?_
      obtain ⟨hi9, hw⟩ := hw
      refine va_iald hx hb hK hP 3 1 rfl rfl hi9 (qaa qmm 15 rfl) ?_
      refine lv_topi (fun x6 ex6 => ?_)
      have hw := hw x6 ex6
      refine lv_goto (tgt := 70) hx hb (qaa qw4 0 rfl) (by decide) ?_
      exact vx_ret (W.widen (k := 1) (n := 6) (nbq rfl) (nbq rfl) (W.iret (v := x6) hx hb hr (fun t ht hW => ⟨⟨x6, (x3, jdu), rfl, hw, by rw [ht]; exact hP, va_K.moved hW.alike hK, hD⟩, hS.F ht⟩) hS.2.2 (qaa qw4 6 rfl)))
  · have hw := hw.2 c2
    refine lv_aload_n hx hb (qaa qoo 9 rfl) rfl (lv_at hl 0 rfl) ?_
    refine lv_dup hx hb (qaa qoo 10 rfl) rfl ?_
    refine va_get (D := (dC, dI)) (ci := 10) (v := .int jdu) (C := RX10) (T := TX10) (N := 19) hx hb hts qD1 hown hK hP 0 rfl rfl 17 (by decide) (hts _ q2j) (fun _ h9 => h9) rfl (qaa qoo 11 rfl) ?_
    refine lv_iconst (v := 1) hx hb (qaa qoo 12 rfl) (by decide) ?_
    refine lv_iadd hx hb (qaa qoo 13 rfl) ?_
    refine lv_topi (fun x7 ex7 => ?_)
    have hw := hw x7 ex7
    refine va_put (D := (dC, dI)) (ci := 10) (v := .int x7) (ty := .int) (C := RX10) (T := TX10) (N := 19) hx hb hts qD1 tyX10 tyX10_ok nmX10 hown hK hP hD hS 0 rfl rfl 17 (by decide) (hts _ q2j) (fun _ h9 => h9) rfl (by decide +kernel) rfl rfl (nbq rfl) (qaa qoo 14 rfl) (fun H locs hP hD hS => ?_)
    have hP : va_P (dC, dI) vwCl (qzb a0 jaK jaR ja1 jcp jbc jbV ja3 jbH ja2 jbO jaq jac jbI jbl jbn jba jaa x7 jbz jaR jcB jcC jmu jmt jbk jbj jbe jbq jef jgP jls jcd jmt cyI jnF jmu cyI jnG) H := hP
    have hD : va_D A (qzb a0 jaK jaR ja1 jcp jbc jbV ja3 jbH ja2 jbO jaq jac jbI jbl jbn jba jaa x7 jbz jaR jcB jcC jmu jmt jbk jbj jbe jbq jef jgP jls jcd jmt cyI jnF jmu cyI jnG) := hD
    obtain ⟨sa9, hsa9⟩ := hY.2.2.2.2.1 _ (List.mem_of_getElem? (i := 2) rfl)
    exact qanc hx hb hY.1 (own := RX10) (cls := "java/util/NoSuchElementException") (names := ["java/lang/RuntimeException", "java/lang/Exception"]) (ik := 264) (is := 266) (ic := 268) (rx := qxN) (by decide +kernel) (by decide +kernel) (by decide +kernel) (by decide +kernel) hown (by decide +kernel) (by decide +kernel) (hts _ qaui) (hts _ qamM) hsa9 (vx_hat (fun w hw9 => hts w (qaFA w hw9)) qaFU (qa0g hY.2.2.2.1)) qaK2 hY.2.1 hY.2.2.1 hS (by rw [hml]; exact hl.1) (qaa qoo 15 rfl) (qaa qmm 0 rfl) (qaa qmm 1 rfl) (qaa qmm 2 rfl) (qaa qmm 3 rfl) (fun x hx9 => (hXs.1 x hx9).elim) (nbq rfl) (nbq rfl) (nbq rfl) (nbq rfl) hlocks (fun t hal hsz9 hq9 => ⟨(jbz, x7), trivial, ⟨hw, hP.kept (fun k q hk9 => hq9 _ ((hP k q hk9).lt)), va_K.moved hal hK, hD⟩, qau2 hS hsz9 hq9⟩) hS.2.2 (nbq rfl) (nbq rfl)
theorem qaQp : (.classLink RL 13 "java/lang/IllegalArgumentException" : Cond) ∈ wsL_fox := qaBB 595 (by decide +kernel)
theorem qahD : (.classLink RL 31 "java/util/NoSuchElementException" : Cond) ∈ wsL_fox := qaBB 2639 (by decide +kernel)
theorem qaW4 : (.codeWith yL_fox cL_fox 5 (some .int) [(0, 10, 13, 31), (0, 10, 17, 13)] : Cond) ∈ wsL_fox := qaBB 2773 (by decide +kernel)
set_option maxHeartbeats 4000000 in
set_option maxRecDepth 100000 in
theorem qbbp (l : Launch) (dC : Nat → ClassId) (dI : Nat → Nat → Nat) (cyB cyI cyJ cyP : ClassId) (a0 a3 jaR jmt jmu sz : Nat) (jaK ja1 jcp jbc jbV ja3 jbH ja2 jbO jaq jac jbI jbl jbn jba jaa jcB jcC jbk jbj jbe jbq jef jgP jcd : Value) (n3 : Nat) (jls : Int32) (jnF jnG : NI) (jbz jdu : Int32) (f3 : Nat → Int64) (p1 p2 : Int32) {Q : Int32 → Int32 → Int32 → (Nat → Int64) → Prop} (hw : qaZ9 n3 jls jnF jnG jbz jdu f3 p1 p2 Q) : Met l yL_fox wsL_fox ({ frames := 9, cells := 1, slots := 6, locals := 186 }) (va_Pc [.ref a0, .int p1, .int p2, .ref a3] (cPx l (dC, dI) (kT cyB cyI cyJ cyP) (qMI a0 jaK jaR ja1 jcp jbc jbV ja3 jbH ja2 jbO jaq jac jbI jbl jbn jba jaa jdu jbz jaR jcB jcC jmu jmt jbk jbj jbe jbq jef jgP jls jcd jmt cyI jnF jmu cyI jnG a3 cyJ n3 f3) sz)) (va_Qi (fun (r : Int32) (u : Int32 × Int32 × (Nat → Int64)) => Q r u.1 u.2.1 u.2.2) (cB (dC, dI) (kT cyB cyI cyJ cyP) (va_A (qMI a0 jaK jaR ja1 jcp jbc jbV ja3 jbH ja2 jbO jaq jac jbI jbl jbn jba jaa jdu jbz jaR jcB jcC jmu jmt jbk jbj jbe jbq jef jgP jls jcd jmt cyI jnF jmu cyI jnG a3 cyJ n3 f3) sz) (fun u : Int32 × Int32 × (Nat → Int64) => ((qMI a0 jaK jaR ja1 jcp jbc jbV ja3 jbH ja2 jbO jaq jac jbI jbl jbn jba jaa u.2.1 u.1 jaR jcB jcC jmu jmt jbk jbj jbe jbq jef jgP jls jcd jmt cyI jnF jmu cyI jnG a3 cyJ n3 u.2.2) : va_W))) (va_A (qMI a0 jaK jaR ja1 jcp jbc jbV ja3 jbH ja2 jbO jaq jac jbI jbl jbn jba jaa jdu jbz jaR jcB jcC jmu jmt jbk jbj jbe jbq jef jgP jls jcd jmt cyI jnF jmu cyI jnG a3 cyJ n3 f3) sz)) 1 6 (va_A (qMI a0 jaK jaR ja1 jcp jbc jbV ja3 jbH ja2 jbO jaq jac jbI jbl jbn jba jaa jdu jbz jaR jcB jcC jmu jmt jbk jbj jbe jbq jef jgP jls jcd jmt cyI jnF jmu cyI jnG a3 cyJ n3 f3) sz) := by
  refine va_MetW (cc := cL_fox) (maxL := 5) (ret := (some .int)) (by decide) rfl ?_
  intro p e s m args below meth c s₁ B hml hv
  obtain ⟨rfl, hsz, hP, hK, hD0, hNw, hXl, hXu, hXn, hXt⟩ := hv
  have hx := B.exec
  have hb := B.bytes
  have hr := B.returns
  have hts := atoms_spec (ws := wsL_fox) B.pre
  have hown : s.vm.findClass RL = some m.cls := findClass_of_methodNamed B.named
  have hlocks := B.notSynchronized
  subst hsz
  have hD := hD0.self (sz := s.heap.size)
  generalize hAe : va_A (qMI a0 jaK jaR ja1 jcp jbc jbV ja3 jbH ja2 jbO jaq jac jbI jbl jbn jba jaa jdu jbz jaR jcB jcC jmu jmt jbk jbj jbe jbq jef jgP jls jcd jmt cyI jnF jmu cyI jnG a3 cyJ n3 f3) s.heap.size = A at hD hXu hXn ⊢
  have hA : ∀ q : Nat, s.heap.size ≤ q → A q := fun q h => by rw [← hAe]; exact Or.inr h
  have hS : va_S A s.heap s.heap [] := va_S.rf
  have hP : va_P (dC, dI) vwCl (qMI a0 jaK jaR ja1 jcp jbc jbV ja3 jbH ja2 jbO jaq jac jbI jbl jbn jba jaa jdu jbz jaR jcB jcC jmu jmt jbk jbj jbe jbq jef jgP jls jcd jmt cyI jnF jmu cyI jnG a3 cyJ n3 f3) s.heap := hP
  have hl := lv_entry ([.ref a0, .int p1, .int p2, .ref a3]) (n := 5) (nbq rfl)
  rw [lg_entry_eq]
  generalize (lg_sl ([.ref a0, .int p1, .int p2, .ref a3]) ++ List.replicate (5 - (lg_sl ([.ref a0, .int p1, .int p2, .ref a3])).length) Slot.unset).toArray = ls at hl ⊢
  have hl : lv_has ls 5 [(0, .ref a0), (1, .int p1), (2, .int p2), (3, .ref a3)] := hl
  have hY : cfY l s A := ⟨hXl, hXu, hXn, hXt⟩
  have hTb := vx_table (x := yL_fox) B (hts _ qaW4)
  clear hAe
  obtain ⟨H, hH⟩ : ∃ H, H = s.heap := ⟨_, rfl⟩
  rw [← hH] at hP ⊢
  have hS : va_S A s.heap H [] := by rw [hH]; exact va_S.rf
  have hS := hS
  refine lv_aload_n hx hb (qaa qsq 0 rfl) rfl (lv_at hl 3 rfl) ?_
  refine lv_iconst (v := 0) hx hb (qaa qsq 1 rfl) (by decide) ?_
  refine lv_aload_n hx hb (qaa qsq 2 rfl) rfl (lv_at hl 0 rfl) ?_
  refine lv_iload_n hx hb (qaa qsq 3 rfl) rfl (lv_at hl 1 rfl) ?_
  refine lv_iload_n hx hb (qaa qsq 4 rfl) rfl (lv_at hl 2 rfl) ?_
  obtain ⟨hCc, hPc, hDc, hFc⟩ := qac (ws' := (qzb a0 jaK jaR ja1 jcp jbc jbV ja3 jbH ja2 jbO jaq jac jbI jbl jbn jba jaa jdu jbz jaR jcB jcC jmu jmt jbk jbj jbe jbq jef jgP jls jcd jmt cyI jnF jmu cyI jnG)) hP hD hS hA [0, 1, 2, 3] (by decide +kernel) rfl
  refine vx_calli (vx_runV (As := [.int p1, .int p2]) (rest := [.int 0, .ref a3]) ⟨hx, hb, hml, hown, hts⟩ (qa1Y l dC dI cyB cyI cyJ cyP a0 jaR jmt jmu H.size (jaK) (ja1) (jcp) (jbc) (jbV) (ja3) (jbH) (ja2) (jbO) (jaq) (jac) (jbI) (jbl) (jbn) (jba) (jaa) (jcB) (jcC) (jbk) (jbj) (jbe) (jbq) (jef) (jgP) (jcd) jls jnF jnG jbz jdu p1 p2 hw) (cwV 2 hts gL_fox_X10_fox rfl rfl rfl (by decide +kernel) ⟨nbq rfl, nbq rfl⟩) ⟨qau, va_recv (q := (RX10, TX10, 19)) hK hPc (ci := 10) (q0 := 0) rfl rfl, qbk hPc hK hDc hNw hY hS hFc⟩ rfl rfl hl.1 rfl (lv_room (nbq rfl)) (qaa qsq 5 rfl) ⟨nbq rfl, nbq rfl⟩) hS (fun q _ h => hFc q h) hFc (fun q _ h => hFc q h) (fun en ce qx9 u t H1 locs ht hvm hpx hB hz1 hk1 hS hc9 hv9 hcl9 => ?_) (fun r3 u t H1 locs ht hvm hw hB hz1 hk1 hS => ?_)
  · obtain ⟨x1, x2⟩ := u
    obtain ⟨hw, hP1, hK1, hD1⟩ := hB
    rw [ht] at hP1
    obtain ⟨hP, hD⟩ := qad (wr := [(a3, .inl (cyJ, n3, .inr (.inl f3)))]) (w1 := (qzb a0 jaK jaR ja1 jcp jbc jbV ja3 jbH ja2 jbO jaq jac jbI jbl jbn jba jaa x2 x1 jaR jcB jcC jmu jmt jbk jbj jbe jbq jef jgP jls jcd jmt cyI jnF jmu cyI jnG)) (wn := (qMI a0 jaK jaR ja1 jcp jbc jbV ja3 jbH ja2 jbO jaq jac jbI jbl jbn jba jaa x2 x1 jaR jcB jcC jmu jmt jbk jbj jbe jbq jef jgP jls jcd jmt cyI jnF jmu cyI jnG a3 cyJ n3 f3)) hP hD [0, 1, 2, 3] [4] [1, 2, 3, 4, 0] hCc rfl (by decide +kernel) (by decide +kernel) (by decide +kernel) rfl hk1 hFc hP1 hD1
    generalize H1 = H at hP hS hc9 ⊢
    rcases hw with ⟨rfl, hw⟩ | ⟨rfl, hw⟩
    · refine vx_catch (own := RL) (name := "java/util/NoSuchElementException") hown [] ⟨0, 10, 13, 31⟩ [⟨0, 10, 17, 13⟩] (hTb.trans rfl) (fun z hz => nomatch hz) (by decide) (by decide) (hts _ qahD) (va_Nw.use rfl (hY.2.2.2.1.2 _ (List.mem_of_getElem? (i := 1) rfl))) hc9 hv9 hcl9 ?_
      refine lv_astore (lv' := [(4, .ref qx9), (0, .ref a0), (1, .int p1), (2, .int p2), (3, .ref a3)]) hx hb (qaa qsq 9 rfl) hl (by decide) rfl (fun ls hl => ?_)
      refine lv_iconst (v := 1) hx hb (qaa qsq 10 rfl) (by decide) ?_
      exact (W.widen (k := 1) (n := 6) (nbq rfl) (nbq rfl) (W.iret (v := 1) hx hb hr (fun t ht hW => ⟨⟨1, (x1, x2, f3), rfl, hw, by rw [ht]; exact hP, va_K.moved hW.alike hK, hD⟩, hS.F ht⟩) hS.2.2 (qaa qsq 11 rfl)))
    · refine vx_catch (own := RL) (name := "java/lang/IllegalArgumentException") hown [⟨0, 10, 13, 31⟩] ⟨0, 10, 17, 13⟩ [] (hTb.trans rfl) (fun z hz => by rw [List.mem_singleton.mp hz]; exact Or.inr ⟨by decide, _, (hts _ qahD), hY.2.2.2.2.2⟩) (by decide) (by decide) (hts _ qaQp) (va_Nw.use rfl (hY.2.2.2.1.2 _ (List.mem_of_getElem? (i := 0) rfl))) hc9 hv9 hcl9 ?_
      refine lv_astore (lv' := [(4, .ref qx9), (0, .ref a0), (1, .int p1), (2, .int p2), (3, .ref a3)]) hx hb (qaa qsq 12 rfl) hl (by decide) rfl (fun ls hl => ?_)
      refine lv_iconst (v := 2) hx hb (qaa qsq 13 rfl) (by decide) ?_
      exact (W.widen (k := 1) (n := 6) (nbq rfl) (nbq rfl) (W.iret (v := 2) hx hb hr (fun t ht hW => ⟨⟨2, (x1, x2, f3), rfl, hw, by rw [ht]; exact hP, va_K.moved hW.alike hK, hD⟩, hS.F ht⟩) hS.2.2 (qaa qsq 14 rfl)))
  obtain ⟨x1, x2⟩ := u
  obtain ⟨hP1, hK1, hD1⟩ := hB
  rw [ht] at hP1
  obtain ⟨hP, hD⟩ := va_join (wr := [(a3, .inl (cyJ, n3, .inr (.inl f3)))]) (w1 := (qzb a0 jaK jaR ja1 jcp jbc jbV ja3 jbH ja2 jbO jaq jac jbI jbl jbn jba jaa x2 x1 jaR jcB jcC jmu jmt jbk jbj jbe jbq jef jgP jls jcd jmt cyI jnF jmu cyI jnG)) hP hD [0, 1, 2, 3] [4] rfl rfl (by decide) (by decide) hk1 hFc hP1 hD1
  have hP : va_P (dC, dI) vwCl (qMI a0 jaK jaR ja1 jcp jbc jbV ja3 jbH ja2 jbO jaq jac jbI jbl jbn jba jaa x2 x1 jaR jcB jcC jmu jmt jbk jbj jbe jbq jef jgP jls jcd jmt cyI jnF jmu cyI jnG a3 cyJ n3 f3) H1 := hP.sub [1, 2, 3, 4, 0] rfl
  have hD : va_D A (qMI a0 jaK jaR ja1 jcp jbc jbV ja3 jbH ja2 jbO jaq jac jbI jbl jbn jba jaa x2 x1 jaR jcB jcC jmu jmt jbk jbj jbe jbq jef jgP jls jcd jmt cyI jnF jmu cyI jnG a3 cyJ n3 f3) := hD.sub [1, 2, 3, 4, 0] (by decide) rfl
  generalize H1 = H at hP hS ⊢
  refine lv_i2l (v := r3.toInt64) hx hb (qaa qsq 6 rfl) rfl ?_
  refine lv_topl (fun x4 ex4 => ?_)
  have hw := hw x4 ex4
  obtain ⟨hi9, hw⟩ := hw
  refine va_last hx hb hK hP hD hS 4 2 rfl rfl hi9 (qaa qsq 7 rfl) (fun H locs hP hD hS => ?_)
  obtain ⟨f5, ef5⟩ : ∃ y : Nat → Int64, y = vp_updL f3 (0 : Int32).toNatClampNeg x4 := ⟨_, rfl⟩
  have hw := hw f5 ef5
  have hP : va_P (dC, dI) vwCl (qMI a0 jaK jaR ja1 jcp jbc jbV ja3 jbH ja2 jbO jaq jac jbI jbl jbn jba jaa x2 x1 jaR jcB jcC jmu jmt jbk jbj jbe jbq jef jgP jls jcd jmt cyI jnF jmu cyI jnG a3 cyJ n3 f5) H := by rw [ef5]; exact hP
  have hD : va_D A (qMI a0 jaK jaR ja1 jcp jbc jbV ja3 jbH ja2 jbO jaq jac jbI jbl jbn jba jaa x2 x1 jaR jcB jcC jmu jmt jbk jbj jbe jbq jef jgP jls jcd jmt cyI jnF jmu cyI jnG a3 cyJ n3 f5) := by rw [ef5]; exact hD
  refine lv_goto (tgt := 21) hx hb (qaa qsq 8 rfl) (by decide) ?_
  refine lv_iconst (v := 0) hx hb (qaa qsq 15 rfl) (by decide) ?_
  exact (W.widen (k := 1) (n := 6) (nbq rfl) (nbq rfl) (W.iret (v := 0) hx hb hr (fun t ht hW => ⟨⟨0, (x1, x2, f5), rfl, hw, by rw [ht]; exact hP, va_K.moved hW.alike hK, hD⟩, hS.F ht⟩) hS.2.2 (qaa qaYq 0 rfl)))
theorem qbfI {x : Int32} (h : ¬ (x.toInt < 0 ∨ 6 < x.toInt)) : x = 0 ∨ x = 1 ∨ x = 2 ∨ x = 3 ∨ x = 4 ∨ x = 5 ∨ x = 6 := by
  obtain ⟨j, hj, e⟩ := nI_of (x := x) (fun h0 => h (Or.inl (Int.lt_of_lt_of_le (by simpa using (Int32.lt_iff_toInt_lt.mp h0)) (by decide : (0 : Int) ≤ 0))))
  have h2 : (j : Int) ≤ 6 ∧ 0 ≤ (j : Int) := by
    have := nI_toInt hj
    rw [e] at h
    omega
  have h3 : j = 0 ∨ j = 1 ∨ j = 2 ∨ j = 3 ∨ j = 4 ∨ j = 5 ∨ j = 6 := by omega
  rw [e]
  rcases h3 with rfl | rfl | rfl | rfl | rfl | rfl | rfl <;> decide
theorem qqn : ∀ w ∈ u_ws RX10 TX10 19, w ∈ wsX10_hare := uiM qkL qyE (by decide +kernel)
theorem qaIF : ∀ w ∈ u_ws RX2 TX2 12, w ∈ wsX10_hare := uiM qkL qLg (by decide +kernel)
theorem qaCP : (.fieldLink RX10 19 "MarchHares" "ground" "LMarchHares$Down;" : Cond) ∈ wsX10_hare := qkL 20 (by decide +kernel)
theorem qaru : (.fieldLink RX10 239 "MarchHares$Down" "strength" "[I" : Cond) ∈ wsX10_hare := qkL 2710 (by decide +kernel)
theorem qr7 : (.fieldLink RX10 58 "MarchHares" "now" "LMarchHares$Days;" : Cond) ∈ wsX10_hare := qkL 79 (by decide +kernel)
set_option maxHeartbeats 4000000 in
set_option maxRecDepth 100000 in
theorem qaXG (l : Launch) (dC : Nat → ClassId) (dI : Nat → Nat → Nat) (cyB cyI cyJ cyP : ClassId) (a0 jaR jaT jbb jb6 jcc jck jbW jbL jcF sz : Nat) (jaK ja1 jcp jbc jbV ja3 jbH jbO jaq jac jbI jbl jbn jba jaa jcB jcC jbo jbp jbk jbe jbq jef jbi jcd jbr : Value) (jbm : Int32) (jbQ : NI) (jdh : Int32) (jdN jdi jfQ : NI) (jdu jbz : Int32) (jfl jfK : NI) (p1 p2 : Int32) {E : String → Int32 → Int32 → NI → NI → Prop} {Q : Int32 → Int32 → Int32 → NI → NI → Prop} (hw : qaav jbm jbQ jdh jdN jdi jfQ jdu jbz jfl jfK p1 p2 E Q) : vx_Met l yX10_hare wsX10_hare ({ frames := 8, cells := 2, slots := 12, locals := 164 }) (va_Pc [.ref a0, .int p1, .int p2] (cPx l (dC, dI) (kT cyB cyI cyJ cyP) (qv9 a0 jaK jaR ja1 jcp jbc jbV ja3 jbH jaT jbO jaq jac jbI jbl jbn jba jaa jdu jbz jaR jcB jcC jbo jbp jbk jcF jbe jbq jef jbm jbi jcd jaT jbb jbr jaR jb6 jbb cyI jbQ jb6 jbW jbL jck jcc jdh jcc cyI jfl jck cyI jfK jbW cyI jdN jbL cyI jdi jcF cyI jfQ) sz)) (va_Qi (fun (r : Int32) (u : Int32 × Int32 × NI × NI) => Q r u.1 u.2.1 u.2.2.1 u.2.2.2) (cB (dC, dI) (kT cyB cyI cyJ cyP) (va_A (qv9 a0 jaK jaR ja1 jcp jbc jbV ja3 jbH jaT jbO jaq jac jbI jbl jbn jba jaa jdu jbz jaR jcB jcC jbo jbp jbk jcF jbe jbq jef jbm jbi jcd jaT jbb jbr jaR jb6 jbb cyI jbQ jb6 jbW jbL jck jcc jdh jcc cyI jfl jck cyI jfK jbW cyI jdN jbL cyI jdi jcF cyI jfQ) sz) (fun u : Int32 × Int32 × NI × NI => ((qv9 a0 jaK jaR ja1 jcp jbc jbV ja3 jbH jaT jbO jaq jac jbI jbl jbn jba jaa u.1 u.2.1 jaR jcB jcC jbo jbp jbk jcF jbe jbq jef jbm jbi jcd jaT jbb jbr jaR jb6 jbb cyI jbQ jb6 jbW jbL jck jcc jdh jcc cyI u.2.2.1 jck cyI u.2.2.2 jbW cyI jdN jbL cyI jdi jcF cyI jfQ) : va_W))) (va_A (qv9 a0 jaK jaR ja1 jcp jbc jbV ja3 jbH jaT jbO jaq jac jbI jbl jbn jba jaa jdu jbz jaR jcB jcC jbo jbp jbk jcF jbe jbq jef jbm jbi jcd jaT jbb jbr jaR jb6 jbb cyI jbQ jb6 jbW jbL jck jcc jdh jcc cyI jfl jck cyI jfK jbW cyI jdN jbL cyI jdi jcF cyI jfQ) sz)) (vx_X (fun _ => True) (fun (en : String) (u : Int32 × Int32 × NI × NI) (t : State) => E en u.1 u.2.1 u.2.2.1 u.2.2.2 ∧ cB (dC, dI) (kT cyB cyI cyJ cyP) (va_A (qv9 a0 jaK jaR ja1 jcp jbc jbV ja3 jbH jaT jbO jaq jac jbI jbl jbn jba jaa jdu jbz jaR jcB jcC jbo jbp jbk jcF jbe jbq jef jbm jbi jcd jaT jbb jbr jaR jb6 jbb cyI jbQ jb6 jbW jbL jck jcc jdh jcc cyI jfl jck cyI jfK jbW cyI jdN jbL cyI jdi jcF cyI jfQ) sz) (fun u : Int32 × Int32 × NI × NI => ((qv9 a0 jaK jaR ja1 jcp jbc jbV ja3 jbH jaT jbO jaq jac jbI jbl jbn jba jaa u.1 u.2.1 jaR jcB jcC jbo jbp jbk jcF jbe jbq jef jbm jbi jcd jaT jbb jbr jaR jb6 jbb cyI jbQ jb6 jbW jbL jck jcc jdh jcc cyI u.2.2.1 jck cyI u.2.2.2 jbW cyI jdN jbL cyI jdi jcF cyI jfQ) : va_W)) u t) (va_A (qv9 a0 jaK jaR ja1 jcp jbc jbV ja3 jbH jaT jbO jaq jac jbI jbl jbn jba jaa jdu jbz jaR jcB jcC jbo jbp jbk jcF jbe jbq jef jbm jbi jcd jaT jbb jbr jaR jb6 jbb cyI jbQ jb6 jbW jbL jck jcc jdh jcc cyI jfl jck cyI jfK jbW cyI jdN jbL cyI jdi jcF cyI jfQ) sz)) 2 12 (va_A (qv9 a0 jaK jaR ja1 jcp jbc jbV ja3 jbH jaT jbO jaq jac jbI jbl jbn jba jaa jdu jbz jaR jcB jcC jbo jbp jbk jcF jbe jbq jef jbm jbi jcd jaT jbb jbr jaR jb6 jbb cyI jbQ jb6 jbW jbL jck jcc jdh jcc cyI jfl jck cyI jfK jbW cyI jdN jbL cyI jdi jcF cyI jfQ) sz) := by
  refine vx_ofW (cc := cX10_hare) (maxL := 3) (ret := (some .int)) (by decide) rfl ?_
  intro p e s m args below meth c s₁ B hml hnt hv
  obtain ⟨rfl, hsz, hP, hK, hD0, hNw, hXl, hXu, hXn, hXt⟩ := hv
  have hx := B.exec
  have hb := B.bytes
  have hr := B.returns
  have hts := atoms_spec (ws := wsX10_hare) B.pre
  have hown : s.vm.findClass RX10 = some m.cls := findClass_of_methodNamed B.named
  have hlocks := B.notSynchronized
  subst hsz
  have hD := hD0.self (sz := s.heap.size)
  generalize hAe : va_A (qv9 a0 jaK jaR ja1 jcp jbc jbV ja3 jbH jaT jbO jaq jac jbI jbl jbn jba jaa jdu jbz jaR jcB jcC jbo jbp jbk jcF jbe jbq jef jbm jbi jcd jaT jbb jbr jaR jb6 jbb cyI jbQ jb6 jbW jbL jck jcc jdh jcc cyI jfl jck cyI jfK jbW cyI jdN jbL cyI jdi jcF cyI jfQ) s.heap.size = A at hD hXu hXn ⊢
  have hA : ∀ q : Nat, s.heap.size ≤ q → A q := fun q h => by rw [← hAe]; exact Or.inr h
  have hS : va_S A s.heap s.heap [] := va_S.rf
  have hP : va_P (dC, dI) vwCl (qv9 a0 jaK jaR ja1 jcp jbc jbV ja3 jbH jaT jbO jaq jac jbI jbl jbn jba jaa jdu jbz jaR jcB jcC jbo jbp jbk jcF jbe jbq jef jbm jbi jcd jaT jbb jbr jaR jb6 jbb cyI jbQ jb6 jbW jbL jck jcc jdh jcc cyI jfl jck cyI jfK jbW cyI jdN jbL cyI jdi jcF cyI jfQ) s.heap := hP
  have hl := lv_entry ([.ref a0, .int p1, .int p2]) (n := 3) (nbq rfl)
  rw [lg_entry_eq]
  generalize (lg_sl ([.ref a0, .int p1, .int p2]) ++ List.replicate (3 - (lg_sl ([.ref a0, .int p1, .int p2])).length) Slot.unset).toArray = ls at hl ⊢
  have hl : lv_has ls 3 [(0, .ref a0), (1, .int p1), (2, .int p2)] := hl
  have hY : cfY l s A := ⟨hXl, hXu, hXn, hXt⟩
  have hXs : cfX l s c A := ⟨hnt, hY⟩
  have C0 : cfx p s m _ meth c cX10_hare (some .int) wsX10_hare RX10 3 A (dC, dI) (kT cyB cyI cyJ cyP) ∧ cfX l s c A := ⟨⟨hx, hb, hr, hts, hown, hlocks, hml, hA, hK, hNw⟩, hXs⟩
  clear hAe
  obtain ⟨H, hH⟩ : ∃ H, H = s.heap := ⟨_, rfl⟩
  rw [← hH] at hP ⊢
  have hS : va_S A s.heap H [] := by rw [hH]; exact va_S.rf
  have hS := hS
  refine lv_aload_n hx hb (qaa quZ 0 rfl) rfl (lv_at hl 0 rfl) ?_
  refine lv_iload_n hx hb (qaa quZ 1 rfl) rfl (lv_at hl 1 rfl) ?_
  obtain ⟨hCc, hPc, hDc, hFc⟩ := qac (ws' := (qaYk a0 jaK jaR ja1 jcp jbc jbV ja3 jbH jaT jbO jaq jac jbI jbl jbn jba jaa jdu jbz jaR jcB jcC jbo jbp jbk jcF jbe jbq jef jbm jbi jcd)) hP hD hS hA [0, 1] (by decide +kernel) rfl
  refine vx_callv (vx_runV (As := [.int p1]) (rest := []) ⟨hx, hb, hml, hown, hts⟩ (qqH l dC dI cyB cyI cyJ cyP a0 jaR H.size (jaK) (ja1) (jcp) (jbc) (jbV) (ja3) (jbH) (.ref jaT) (jbO) (jaq) (jac) (jbI) (jbl) (jbn) (jba) (jaa) (.int jbz) (jcB) (jcC) (jbo) (jbp) (jbk) (.ref jcF) (jbe) (jbq) (jef) (jbi) (jcd) jbm jdu p1 hw) (cwV 1 hts gX10_hare_X10_needHare rfl rfl rfl (by decide +kernel) ⟨nbq rfl, nbq rfl⟩) ⟨qau, va_recv (q := (RX10, TX10, 19)) hK hPc (ci := 10) (q0 := 0) rfl rfl, qbk hPc hK hDc hNw hY hS hFc⟩ rfl rfl hl.1 rfl (lv_room (nbq rfl)) (qaa quZ 2 rfl) ⟨nbq rfl, nbq rfl⟩) hS (fun q _ h => hFc q h) hFc (fun q _ h => hFc q h) (fun en ce q9 u t H1 locs ht hvm hpx hB hz1 hk1 hS hc9 hv9 hcl9 => ?_) (fun u t H1 locs ht hvm hw hB hz1 hk1 hS => ?_)
  · obtain ⟨x1, rfl⟩ : ∃ z, z = u := ⟨_, rfl⟩
    obtain ⟨hw, hP1, hK1, hD1⟩ := hB
    rw [ht] at hP1
    obtain ⟨hP, hD⟩ := qad (wr := (qa40 jaT jbb jbr jaR jb6 jbb cyI jbQ jb6 jbW jbL jck jcc jdh jcc cyI jfl jck cyI jfK jbW cyI jdN jbL cyI jdi jcF cyI jfQ)) (w1 := (qaYk a0 jaK jaR ja1 jcp jbc jbV ja3 jbH jaT jbO jaq jac jbI jbl jbn jba jaa x1 jbz jaR jcB jcC jbo jbp jbk jcF jbe jbq jef jbm jbi jcd)) (wn := (qv9 a0 jaK jaR ja1 jcp jbc jbV ja3 jbH jaT jbO jaq jac jbI jbl jbn jba jaa x1 jbz jaR jcB jcC jbo jbp jbk jcF jbe jbq jef jbm jbi jcd jaT jbb jbr jaR jb6 jbb cyI jbQ jb6 jbW jbL jck jcc jdh jcc cyI jfl jck cyI jfK jbW cyI jdN jbL cyI jdi jcF cyI jfQ)) hP hD [0, 1] [2, 3, 4, 5, 6, 7, 8, 9] [8, 9, 0, 1, 2, 3, 4, 5, 6, 7] hCc rfl (by decide +kernel) (by decide +kernel) (by decide +kernel) rfl hk1 hFc hP1 hD1
    generalize H1 = H at hP hS hc9 ⊢
    exact vx_out (fun x hx9 => (hXs.1 x hx9).elim) hlocks hc9 hv9 hcl9 (fun t2 ht2 hal2 => ⟨(x1, jbz, jfl, jfK), trivial, ⟨hw, by rw [ht2]; exact hP, va_K.moved hal2 hK, hD⟩, hS.F ht2⟩) hS.2.2 (nbq rfl) (nbq rfl)
  obtain ⟨x1, rfl⟩ : ∃ z, z = u := ⟨_, rfl⟩
  obtain ⟨hP1, hK1, hD1⟩ := hB
  rw [ht] at hP1
  obtain ⟨hP, hD⟩ := qad (wr := (qa40 jaT jbb jbr jaR jb6 jbb cyI jbQ jb6 jbW jbL jck jcc jdh jcc cyI jfl jck cyI jfK jbW cyI jdN jbL cyI jdi jcF cyI jfQ)) (w1 := (qaYk a0 jaK jaR ja1 jcp jbc jbV ja3 jbH jaT jbO jaq jac jbI jbl jbn jba jaa x1 jbz jaR jcB jcC jbo jbp jbk jcF jbe jbq jef jbm jbi jcd)) (wn := (qv9 a0 jaK jaR ja1 jcp jbc jbV ja3 jbH jaT jbO jaq jac jbI jbl jbn jba jaa x1 jbz jaR jcB jcC jbo jbp jbk jcF jbe jbq jef jbm jbi jcd jaT jbb jbr jaR jb6 jbb cyI jbQ jb6 jbW jbL jck jcc jdh jcc cyI jfl jck cyI jfK jbW cyI jdN jbL cyI jdi jcF cyI jfQ)) hP hD [0, 1] [2, 3, 4, 5, 6, 7, 8, 9] [8, 9, 0, 1, 2, 3, 4, 5, 6, 7] hCc rfl (by decide +kernel) (by decide +kernel) (by decide +kernel) rfl hk1 hFc hP1 hD1
  generalize H1 = H at hP hS ⊢
  refine lv_aload_n hx hb (qaa quZ 3 rfl) rfl (lv_at hl 0 rfl) ?_
  refine lv_iload_n hx hb (qaa quZ 4 rfl) rfl (lv_at hl 2 rfl) ?_
  refine lv_iconst (v := 0) hx hb (qaa quZ 5 rfl) (by decide) ?_
  refine lv_bipush (v := 7) hx hb (qaa quZ 6 rfl) (by decide) ?_
  obtain ⟨hCc, hPc, hDc, hFc⟩ := qac (ws' := (qaiu a0 jaK jaR ja1 jcp jbc jbV ja3 jbH jaT jbO jaq jac jbI jbl jbn jba jaa x1 jbz)) hP hD hS hA [0] (by decide +kernel) rfl
  refine vx_callv (vx_runV (As := [.int p2, .int 0, .int 7]) (rest := []) ⟨hx, hb, hml, hown, hts⟩ (qaV l dC dI cyB cyI cyJ cyP a0 H.size (jaK) (.ref jaR) (ja1) (jcp) (jbc) (jbV) (ja3) (jbH) (.ref jaT) (jbO) (jaq) (jac) (jbI) (jbl) (jbn) (jba) (jaa) (.int x1) jbz p2 0 7 hw) (cwV 3 hts gX10_hare_X10_needWithin rfl rfl rfl (by decide +kernel) ⟨nbq rfl, nbq rfl⟩) ⟨qau, va_recv (q := (RX10, TX10, 19)) hK hPc (ci := 10) (q0 := 0) rfl rfl, qbk hPc hK hDc hNw hY hS hFc⟩ rfl rfl hl.1 rfl (lv_room (nbq rfl)) (qaa quZ 7 rfl) ⟨nbq rfl, nbq rfl⟩) hS (fun q _ h => hFc q h) hFc (fun q _ h => hFc q h) (fun en ce q9 u t H1 locs ht hvm hpx hB hz1 hk1 hS hc9 hv9 hcl9 => ?_) (fun u t H1 locs ht hvm hw hB hz1 hk1 hS => ?_)
  · obtain ⟨x2, rfl⟩ : ∃ z, z = u := ⟨_, rfl⟩
    obtain ⟨hw, hP1, hK1, hD1⟩ := hB
    rw [ht] at hP1
    obtain ⟨hP, hD⟩ := qad (wr := (qa23 jaR jcB jcC jbo jbp jbk jcF jbe jbq jef jbm jbi jcd jaT jbb jbr jaR jb6 jbb cyI jbQ jb6 jbW jbL jck jcc jdh jcc cyI jfl jck cyI jfK jbW cyI jdN jbL cyI jdi jcF cyI jfQ)) (w1 := (qaiu a0 jaK jaR ja1 jcp jbc jbV ja3 jbH jaT jbO jaq jac jbI jbl jbn jba jaa x1 x2)) (wn := (qv9 a0 jaK jaR ja1 jcp jbc jbV ja3 jbH jaT jbO jaq jac jbI jbl jbn jba jaa x1 x2 jaR jcB jcC jbo jbp jbk jcF jbe jbq jef jbm jbi jcd jaT jbb jbr jaR jb6 jbb cyI jbQ jb6 jbW jbL jck jcc jdh jcc cyI jfl jck cyI jfK jbW cyI jdN jbL cyI jdi jcF cyI jfQ)) hP hD [0] [1, 2, 3, 4, 5, 6, 7, 8, 9] [9, 0, 1, 2, 3, 4, 5, 6, 7, 8] hCc rfl (by decide +kernel) (by decide +kernel) (by decide +kernel) rfl hk1 hFc hP1 hD1
    generalize H1 = H at hP hS hc9 ⊢
    exact vx_out (fun x hx9 => (hXs.1 x hx9).elim) hlocks hc9 hv9 hcl9 (fun t2 ht2 hal2 => ⟨(x1, x2, jfl, jfK), trivial, ⟨hw, by rw [ht2]; exact hP, va_K.moved hal2 hK, hD⟩, hS.F ht2⟩) hS.2.2 (nbq rfl) (nbq rfl)
  obtain ⟨x2, rfl⟩ : ∃ z, z = u := ⟨_, rfl⟩
  obtain ⟨hP1, hK1, hD1⟩ := hB
  rw [ht] at hP1
  obtain ⟨hP, hD⟩ := qad (wr := (qa23 jaR jcB jcC jbo jbp jbk jcF jbe jbq jef jbm jbi jcd jaT jbb jbr jaR jb6 jbb cyI jbQ jb6 jbW jbL jck jcc jdh jcc cyI jfl jck cyI jfK jbW cyI jdN jbL cyI jdi jcF cyI jfQ)) (w1 := (qaiu a0 jaK jaR ja1 jcp jbc jbV ja3 jbH jaT jbO jaq jac jbI jbl jbn jba jaa x1 x2)) (wn := (qv9 a0 jaK jaR ja1 jcp jbc jbV ja3 jbH jaT jbO jaq jac jbI jbl jbn jba jaa x1 x2 jaR jcB jcC jbo jbp jbk jcF jbe jbq jef jbm jbi jcd jaT jbb jbr jaR jb6 jbb cyI jbQ jb6 jbW jbL jck jcc jdh jcc cyI jfl jck cyI jfK jbW cyI jdN jbL cyI jdi jcF cyI jfQ)) hP hD [0] [1, 2, 3, 4, 5, 6, 7, 8, 9] [9, 0, 1, 2, 3, 4, 5, 6, 7, 8] hCc rfl (by decide +kernel) (by decide +kernel) (by decide +kernel) rfl hk1 hFc hP1 hD1
  generalize H1 = H at hP hS ⊢
  refine lv_iload_n hx hb (qaa quZ 8 rfl) rfl (lv_at hl 2 rfl) ?_
  by_cases c3 : p2.toInt < 0 ∨ 6 < p2.toInt
  · have hw := hw.1 c3
    refine lv_tableOut (tgt := 135) hx hb dX10_hare_14 c3 (by decide) ?_
    refine lv_aload_n hx hb (qaa qgF 11 rfl) rfl (lv_at hl 0 rfl) ?_
    refine va_get (D := (dC, dI)) (ci := 10) (v := .ref jaT) (C := RX10) (T := TX10) (N := 19) hx hb hts qqn hown hK hP 0 rfl rfl 8 (by decide) (hts _ qr7) (fun _ h9 => h9) rfl (qaa qgF 12 rfl) ?_
    refine lv_iload_n hx hb (qaa qgF 13 rfl) rfl (lv_at hl 1 rfl) ?_
    obtain ⟨hCc, hPc, hDc, hFc⟩ := qac (ws' := (qDj jaT jbb jbr jaR jb6 jbb cyI jbQ)) hP hD hS hA [2, 3] (by decide +kernel) rfl
    refine va_calli (va_runV (As := [.int p1]) (rest := []) ⟨hx, hb, hml, hown, hts⟩ (qh8 l dC dI cyB cyI cyJ cyP jaT jbb H.size (jbr) (.ref jaR) (.ref jb6) jbQ p1 hw) (cwV 1 hts gX10_hare_X1_isCaught rfl rfl rfl (by decide +kernel) ⟨nbq rfl, nbq rfl⟩) ⟨qab, va_recv (q := (RX1, TX1, 4)) hK hPc (ci := 1) (q0 := 0) rfl rfl, qae hPc hK hDc hNw⟩ rfl rfl hl.1 rfl (lv_room (nbq rfl)) (qaa qgF 14 rfl) ⟨nbq rfl, nbq rfl⟩) hS (fun q _ h => hFc q h) hFc (fun r4 u t H1 locs ht hvm hw hB hz1 hk1 hS => ?_)
    obtain ⟨hP1, hK1, hD1⟩ := hB
    rw [ht] at hP1
    obtain ⟨hP, hD⟩ := qad (wr := (qajc a0 jaK jaR ja1 jcp jbc jbV ja3 jbH jaT jbO jaq jac jbI jbl jbn jba jaa x1 x2 jaR jcB jcC jbo jbp jbk jcF jbe jbq jef jbm jbi jcd jb6 jbW jbL jck jcc jdh jcc cyI jfl jck cyI jfK jbW cyI jdN jbL cyI jdi jcF cyI jfQ)) (w1 := (qDj jaT jbb jbr jaR jb6 jbb cyI jbQ)) (wn := (qv9 a0 jaK jaR ja1 jcp jbc jbV ja3 jbH jaT jbO jaq jac jbI jbl jbn jba jaa x1 x2 jaR jcB jcC jbo jbp jbk jcF jbe jbq jef jbm jbi jcd jaT jbb jbr jaR jb6 jbb cyI jbQ jb6 jbW jbL jck jcc jdh jcc cyI jfl jck cyI jfK jbW cyI jdN jbL cyI jdi jcF cyI jfQ)) hP hD [2, 3] [0, 1, 4, 5, 6, 7, 8, 9] [0, 1, 8, 9, 2, 3, 4, 5, 6, 7] hCc rfl (by decide +kernel) (by decide +kernel) (by decide +kernel) rfl hk1 hFc hP1 hD1
    generalize H1 = H at hP hS ⊢
    refine lv_if_eq (tgt := 150) hx hb (qaa qgF 15 rfl) (by decide) (fun c5 => ?_) (fun c5 => ?_)
    · have hw := hw.1 c5
      refine lv_aload_n hx hb (qaa qud 2 rfl) rfl (lv_at hl 0 rfl) ?_
      refine va_get (D := (dC, dI)) (ci := 10) (v := .ref jaT) (C := RX10) (T := TX10) (N := 19) hx hb hts qqn hown hK hP 0 rfl rfl 8 (by decide) (hts _ qr7) (fun _ h9 => h9) rfl (qaa qud 3 rfl) ?_
      refine lv_iload_n hx hb (qaa qud 4 rfl) rfl (lv_at hl 1 rfl) ?_
      obtain ⟨hCc, hPc, hDc, hFc⟩ := qac (ws' := (qa37 jaT jbb jbr jaR jb6 jbb cyI jbQ jaR jcB jcC jbo jbp jbk jcF jbe jbq jef jbm jbi jcd jb6 jbW jbL jck jcc jdh jcc cyI jfl jck cyI jfK jbW cyI jdN jbL cyI jdi)) hP hD hS hA [2, 3, 1, 4, 5, 6, 7, 8] (by decide +kernel) rfl
      refine va_calli (va_runV (As := [.int p1]) (rest := []) ⟨hx, hb, hml, hown, hts⟩ (qXl l dC dI cyB cyI cyJ cyP jaT jbb jaR jb6 jcc jck jbW jbL H.size (jbr) (jcB) (jcC) (jbo) (jbp) (jbk) (.ref jcF) (jbe) (jbq) (jef) (jbi) (jcd) jbQ jbm jdh jdN jdi jfl jfK p1 hw) (cwV 1 hts gX10_hare_X1_reach rfl rfl rfl (by decide +kernel) ⟨nbq rfl, nbq rfl⟩) ⟨qab, va_recv (q := (RX1, TX1, 4)) hK hPc (ci := 1) (q0 := 0) rfl rfl, qae hPc hK hDc hNw⟩ rfl rfl hl.1 rfl (lv_room (nbq rfl)) (qaa qud 5 rfl) ⟨nbq rfl, nbq rfl⟩) hS (fun q _ h => hFc q h) hFc (fun r8 u t H1 locs ht hvm hw hB hz1 hk1 hS => ?_)
      obtain ⟨f6, f7⟩ := u
      obtain ⟨hP1, hK1, hD1⟩ := hB
      rw [ht] at hP1
      obtain ⟨hP, hD⟩ := qad (wr := [(a0, .inr (10, [jaK, .ref jaR, ja1, jcp, jbc, jbV, ja3, jbH, .ref jaT, jbO, jaq, jac, jbI, jbl, jbn, jba, jaa, .int x1, .int x2])), (jcF, .inl (cyI, 6, .inl jfQ))]) (w1 := (qa37 jaT jbb jbr jaR jb6 jbb cyI jbQ jaR jcB jcC jbo jbp jbk jcF jbe jbq jef jbm jbi jcd jb6 jbW jbL jck jcc jdh jcc cyI f6 jck cyI f7 jbW cyI jdN jbL cyI jdi)) (wn := (qv9 a0 jaK jaR ja1 jcp jbc jbV ja3 jbH jaT jbO jaq jac jbI jbl jbn jba jaa x1 x2 jaR jcB jcC jbo jbp jbk jcF jbe jbq jef jbm jbi jcd jaT jbb jbr jaR jb6 jbb cyI jbQ jb6 jbW jbL jck jcc jdh jcc cyI f6 jck cyI f7 jbW cyI jdN jbL cyI jdi jcF cyI jfQ)) hP hD [2, 3, 1, 4, 5, 6, 7, 8] [0, 9] [0, 4, 2, 3, 5, 6, 7, 8, 9, 1] hCc rfl (by decide +kernel) (by decide +kernel) (by decide +kernel) rfl hk1 hFc hP1 hD1
      generalize H1 = H at hP hS ⊢
      exact vx_ret (W.widen (k := 2) (n := 12) (nbq rfl) (nbq rfl) (W.iret (v := r8) hx hb hr (fun t ht hW => ⟨⟨r8, (x1, x2, f6, f7), rfl, hw, by rw [ht]; exact hP, va_K.moved hW.alike hK, hD⟩, hS.F ht⟩) hS.2.2 (qaa qud 6 rfl)))
    · have hw := hw.2 c5
      refine lv_iconst (v := 0) hx hb (qaa qud 0 rfl) (by decide) ?_
      refine lv_goto (tgt := 158) hx hb (qaa qud 1 rfl) (by decide) ?_
      exact vx_ret (W.widen (k := 2) (n := 12) (nbq rfl) (nbq rfl) (W.iret (v := 0) hx hb hr (fun t ht hW => ⟨⟨0, (x1, x2, jfl, jfK), rfl, hw, by rw [ht]; exact hP, va_K.moved hW.alike hK, hD⟩, hS.F ht⟩) hS.2.2 (qaa qud 6 rfl)))
  · have hw := hw.2
    rcases qbfI c3 with c3 | c3 | c3 | c3 | c3 | c3 | c3
    · have hw := hw.1 c3
      refine lv_tableIn (tgt := 56) (off := 42) hx hb dX10_hare_14 (by rw [c3]; decide) (by rw [c3]; decide) (by rw [c3]; decide) (by decide) ?_
      refine lv_aload_n hx hb (qaa qh5 0 rfl) rfl (lv_at hl 0 rfl) ?_
      refine va_get (D := (dC, dI)) (ci := 10) (v := .ref jaT) (C := RX10) (T := TX10) (N := 19) hx hb hts qqn hown hK hP 0 rfl rfl 8 (by decide) (hts _ qr7) (fun _ h9 => h9) rfl (qaa qh5 1 rfl) ?_
      refine lv_iload_n hx hb (qaa qh5 2 rfl) rfl (lv_at hl 1 rfl) ?_
      obtain ⟨hCc, hPc, hDc, hFc⟩ := qac (ws' := (qDj jaT jbb jbr jaR jb6 jbb cyI jbQ)) hP hD hS hA [2, 3] (by decide +kernel) rfl
      refine va_calli (va_runV (As := [.int p1]) (rest := []) ⟨hx, hb, hml, hown, hts⟩ (qh8 l dC dI cyB cyI cyJ cyP jaT jbb H.size (jbr) (.ref jaR) (.ref jb6) jbQ p1 hw) (cwV 1 hts gX10_hare_X1_isCaught rfl rfl rfl (by decide +kernel) ⟨nbq rfl, nbq rfl⟩) ⟨qab, va_recv (q := (RX1, TX1, 4)) hK hPc (ci := 1) (q0 := 0) rfl rfl, qae hPc hK hDc hNw⟩ rfl rfl hl.1 rfl (lv_room (nbq rfl)) (qaa qh5 3 rfl) ⟨nbq rfl, nbq rfl⟩) hS (fun q _ h => hFc q h) hFc (fun r9 u t H1 locs ht hvm hw hB hz1 hk1 hS => ?_)
      obtain ⟨hP1, hK1, hD1⟩ := hB
      rw [ht] at hP1
      obtain ⟨hP, hD⟩ := qad (wr := (qajc a0 jaK jaR ja1 jcp jbc jbV ja3 jbH jaT jbO jaq jac jbI jbl jbn jba jaa x1 x2 jaR jcB jcC jbo jbp jbk jcF jbe jbq jef jbm jbi jcd jb6 jbW jbL jck jcc jdh jcc cyI jfl jck cyI jfK jbW cyI jdN jbL cyI jdi jcF cyI jfQ)) (w1 := (qDj jaT jbb jbr jaR jb6 jbb cyI jbQ)) (wn := (qv9 a0 jaK jaR ja1 jcp jbc jbV ja3 jbH jaT jbO jaq jac jbI jbl jbn jba jaa x1 x2 jaR jcB jcC jbo jbp jbk jcF jbe jbq jef jbm jbi jcd jaT jbb jbr jaR jb6 jbb cyI jbQ jb6 jbW jbL jck jcc jdh jcc cyI jfl jck cyI jfK jbW cyI jdN jbL cyI jdi jcF cyI jfQ)) hP hD [2, 3] [0, 1, 4, 5, 6, 7, 8, 9] [0, 1, 8, 9, 2, 3, 4, 5, 6, 7] hCc rfl (by decide +kernel) (by decide +kernel) (by decide +kernel) rfl hk1 hFc hP1 hD1
      generalize H1 = H at hP hS ⊢
      refine lv_if_eq (tgt := 71) hx hb (qaa qh5 4 rfl) (by decide) (fun c10 => ?_) (fun c10 => ?_)
      · have hw := hw.1 c10
        refine lv_aload_n hx hb (qaa qh5 7 rfl) rfl (lv_at hl 0 rfl) ?_
        refine va_get (D := (dC, dI)) (ci := 10) (v := .ref jaT) (C := RX10) (T := TX10) (N := 19) hx hb hts qqn hown hK hP 0 rfl rfl 8 (by decide) (hts _ qr7) (fun _ h9 => h9) rfl (qaa qh5 8 rfl) ?_
        refine lv_iload_n hx hb (qaa qh5 9 rfl) rfl (lv_at hl 1 rfl) ?_
        obtain ⟨hCc, hPc, hDc, hFc⟩ := qac (ws' := (qDj jaT jbb jbr jaR jb6 jbb cyI jbQ)) hP hD hS hA [2, 3] (by decide +kernel) rfl
        refine va_calli (va_runV (As := [.int p1]) (rest := []) ⟨hx, hb, hml, hown, hts⟩ (qvC l dC dI cyB cyI cyJ cyP jaT jbb H.size (jbr) (.ref jaR) (.ref jb6) jbQ p1 hw) (cwV 1 hts gX10_hare_X1_sits rfl rfl rfl (by decide +kernel) ⟨nbq rfl, nbq rfl⟩) ⟨qab, va_recv (q := (RX1, TX1, 4)) hK hPc (ci := 1) (q0 := 0) rfl rfl, qae hPc hK hDc hNw⟩ rfl rfl hl.1 rfl (lv_room (nbq rfl)) (qaa qh5 10 rfl) ⟨nbq rfl, nbq rfl⟩) hS (fun q _ h => hFc q h) hFc (fun r11 u t H1 locs ht hvm hw hB hz1 hk1 hS => ?_)
        obtain ⟨hP1, hK1, hD1⟩ := hB
        rw [ht] at hP1
        obtain ⟨hP, hD⟩ := qad (wr := (qajc a0 jaK jaR ja1 jcp jbc jbV ja3 jbH jaT jbO jaq jac jbI jbl jbn jba jaa x1 x2 jaR jcB jcC jbo jbp jbk jcF jbe jbq jef jbm jbi jcd jb6 jbW jbL jck jcc jdh jcc cyI jfl jck cyI jfK jbW cyI jdN jbL cyI jdi jcF cyI jfQ)) (w1 := (qDj jaT jbb jbr jaR jb6 jbb cyI jbQ)) (wn := (qv9 a0 jaK jaR ja1 jcp jbc jbV ja3 jbH jaT jbO jaq jac jbI jbl jbn jba jaa x1 x2 jaR jcB jcC jbo jbp jbk jcF jbe jbq jef jbm jbi jcd jaT jbb jbr jaR jb6 jbb cyI jbQ jb6 jbW jbL jck jcc jdh jcc cyI jfl jck cyI jfK jbW cyI jdN jbL cyI jdi jcF cyI jfQ)) hP hD [2, 3] [0, 1, 4, 5, 6, 7, 8, 9] [0, 1, 8, 9, 2, 3, 4, 5, 6, 7] hCc rfl (by decide +kernel) (by decide +kernel) (by decide +kernel) rfl hk1 hFc hP1 hD1
        generalize H1 = H at hP hS ⊢
        exact vx_ret (W.widen (k := 2) (n := 12) (nbq rfl) (nbq rfl) (W.iret (v := r11) hx hb hr (fun t ht hW => ⟨⟨r11, (x1, x2, jfl, jfK), rfl, hw, by rw [ht]; exact hP, va_K.moved hW.alike hK, hD⟩, hS.F ht⟩) hS.2.2 (qaa qh5 11 rfl)))
      · have hw := hw.2 c10
        refine lv_iconst (v := (-1)) hx hb (qaa qh5 5 rfl) (by decide) ?_
        refine lv_goto (tgt := 79) hx hb (qaa qh5 6 rfl) (by decide) ?_
        exact vx_ret (W.widen (k := 2) (n := 12) (nbq rfl) (nbq rfl) (W.iret (v := (-1)) hx hb hr (fun t ht hW => ⟨⟨(-1), (x1, x2, jfl, jfK), rfl, hw, by rw [ht]; exact hP, va_K.moved hW.alike hK, hD⟩, hS.F ht⟩) hS.2.2 (qaa qh5 11 rfl)))
    · have hw := hw.2.1 c3
      refine lv_tableIn (tgt := 80) (off := 66) hx hb dX10_hare_14 (by rw [c3]; decide) (by rw [c3]; decide) (by rw [c3]; decide) (by decide) ?_
      refine lv_aload_n hx hb (qaa qh5 12 rfl) rfl (lv_at hl 0 rfl) ?_
      refine va_get (D := (dC, dI)) (ci := 10) (v := .ref jaT) (C := RX10) (T := TX10) (N := 19) hx hb hts qqn hown hK hP 0 rfl rfl 8 (by decide) (hts _ qr7) (fun _ h9 => h9) rfl (qaa qh5 13 rfl) ?_
      refine lv_iload_n hx hb (qaa qh5 14 rfl) rfl (lv_at hl 1 rfl) ?_
      obtain ⟨hCc, hPc, hDc, hFc⟩ := qac (ws' := (qDj jaT jbb jbr jaR jb6 jbb cyI jbQ)) hP hD hS hA [2, 3] (by decide +kernel) rfl
      refine va_calli (va_runV (As := [.int p1]) (rest := []) ⟨hx, hb, hml, hown, hts⟩ (qsG l dC dI cyB cyI cyJ cyP jaT jbb H.size (jbr) (.ref jaR) (.ref jb6) jbQ p1 hw) (cwV 1 hts gX10_hare_X1_strong rfl rfl rfl (by decide +kernel) ⟨nbq rfl, nbq rfl⟩) ⟨qab, va_recv (q := (RX1, TX1, 4)) hK hPc (ci := 1) (q0 := 0) rfl rfl, qae hPc hK hDc hNw⟩ rfl rfl hl.1 rfl (lv_room (nbq rfl)) (qaa qh5 15 rfl) ⟨nbq rfl, nbq rfl⟩) hS (fun q _ h => hFc q h) hFc (fun r12 u t H1 locs ht hvm hw hB hz1 hk1 hS => ?_)
      obtain ⟨hP1, hK1, hD1⟩ := hB
      rw [ht] at hP1
      obtain ⟨hP, hD⟩ := qad (wr := (qajc a0 jaK jaR ja1 jcp jbc jbV ja3 jbH jaT jbO jaq jac jbI jbl jbn jba jaa x1 x2 jaR jcB jcC jbo jbp jbk jcF jbe jbq jef jbm jbi jcd jb6 jbW jbL jck jcc jdh jcc cyI jfl jck cyI jfK jbW cyI jdN jbL cyI jdi jcF cyI jfQ)) (w1 := (qDj jaT jbb jbr jaR jb6 jbb cyI jbQ)) (wn := (qv9 a0 jaK jaR ja1 jcp jbc jbV ja3 jbH jaT jbO jaq jac jbI jbl jbn jba jaa x1 x2 jaR jcB jcC jbo jbp jbk jcF jbe jbq jef jbm jbi jcd jaT jbb jbr jaR jb6 jbb cyI jbQ jb6 jbW jbL jck jcc jdh jcc cyI jfl jck cyI jfK jbW cyI jdN jbL cyI jdi jcF cyI jfQ)) hP hD [2, 3] [0, 1, 4, 5, 6, 7, 8, 9] [0, 1, 8, 9, 2, 3, 4, 5, 6, 7] hCc rfl (by decide +kernel) (by decide +kernel) (by decide +kernel) rfl hk1 hFc hP1 hD1
      generalize H1 = H at hP hS ⊢
      exact vx_ret (W.widen (k := 2) (n := 12) (nbq rfl) (nbq rfl) (W.iret (v := r12) hx hb hr (fun t ht hW => ⟨⟨r12, (x1, x2, jfl, jfK), rfl, hw, by rw [ht]; exact hP, va_K.moved hW.alike hK, hD⟩, hS.F ht⟩) hS.2.2 (qaa qjt 0 rfl)))
    · have hw := hw.2.2.1 c3
      refine lv_tableIn (tgt := 89) (off := 75) hx hb dX10_hare_14 (by rw [c3]; decide) (by rw [c3]; decide) (by rw [c3]; decide) (by decide) ?_
      refine lv_aload_n hx hb (qaa qjt 1 rfl) rfl (lv_at hl 0 rfl) ?_
      refine va_get (D := (dC, dI)) (ci := 10) (v := .ref jaR) (C := RX10) (T := TX10) (N := 19) hx hb hts qqn hown hK hP 0 rfl rfl 1 (by decide) (hts _ qaCP) (fun _ h9 => h9) rfl (qaa qjt 2 rfl) ?_
      refine va_get (D := (dC, dI)) (ci := 2) (v := .ref jcF) (C := RX2) (T := TX2) (N := 12) hx hb hts qaIF hown hK hP 1 rfl rfl 5 (by decide) (hts _ qaru) (fun _ h9 => h9) rfl (qaa qjt 3 rfl) ?_
      refine lv_iload_n hx hb (qaa qjt 4 rfl) rfl (lv_at hl 1 rfl) ?_
      obtain ⟨hi9, hw⟩ := hw
      refine va_iald hx hb hK hP 9 1 rfl rfl hi9 (qaa qjt 5 rfl) ?_
      refine lv_topi (fun x13 ex13 => ?_)
      have hw := hw x13 ex13
      exact vx_ret (W.widen (k := 2) (n := 12) (nbq rfl) (nbq rfl) (W.iret (v := x13) hx hb hr (fun t ht hW => ⟨⟨x13, (x1, x2, jfl, jfK), rfl, hw, by rw [ht]; exact hP, va_K.moved hW.alike hK, hD⟩, hS.F ht⟩) hS.2.2 (qaa qjt 6 rfl)))
    · have hw := hw.2.2.2.1 c3
      refine lv_tableIn (tgt := 99) (off := 85) hx hb dX10_hare_14 (by rw [c3]; decide) (by rw [c3]; decide) (by rw [c3]; decide) (by decide) ?_
      refine lv_aload_n hx hb (qaa qjt 7 rfl) rfl (lv_at hl 0 rfl) ?_
      refine va_get (D := (dC, dI)) (ci := 10) (v := .ref jaT) (C := RX10) (T := TX10) (N := 19) hx hb hts qqn hown hK hP 0 rfl rfl 8 (by decide) (hts _ qr7) (fun _ h9 => h9) rfl (qaa qjt 8 rfl) ?_
      refine lv_iload_n hx hb (qaa qjt 9 rfl) rfl (lv_at hl 1 rfl) ?_
      obtain ⟨hCc, hPc, hDc, hFc⟩ := qac (ws' := (qDj jaT jbb jbr jaR jb6 jbb cyI jbQ)) hP hD hS hA [2, 3] (by decide +kernel) rfl
      refine va_calli (va_runV (As := [.int p1]) (rest := []) ⟨hx, hb, hml, hown, hts⟩ (qacv l dC dI cyB cyI cyJ cyP jaT jbb H.size (jbr) (.ref jaR) (.ref jb6) jbQ p1 hw) (cwV 1 hts gX10_hare_X1_still rfl rfl rfl (by decide +kernel) ⟨nbq rfl, nbq rfl⟩) ⟨qab, va_recv (q := (RX1, TX1, 4)) hK hPc (ci := 1) (q0 := 0) rfl rfl, qae hPc hK hDc hNw⟩ rfl rfl hl.1 rfl (lv_room (nbq rfl)) (qaa qjt 10 rfl) ⟨nbq rfl, nbq rfl⟩) hS (fun q _ h => hFc q h) hFc (fun r14 u t H1 locs ht hvm hw hB hz1 hk1 hS => ?_)
      obtain ⟨hP1, hK1, hD1⟩ := hB
      rw [ht] at hP1
      obtain ⟨hP, hD⟩ := qad (wr := (qajc a0 jaK jaR ja1 jcp jbc jbV ja3 jbH jaT jbO jaq jac jbI jbl jbn jba jaa x1 x2 jaR jcB jcC jbo jbp jbk jcF jbe jbq jef jbm jbi jcd jb6 jbW jbL jck jcc jdh jcc cyI jfl jck cyI jfK jbW cyI jdN jbL cyI jdi jcF cyI jfQ)) (w1 := (qDj jaT jbb jbr jaR jb6 jbb cyI jbQ)) (wn := (qv9 a0 jaK jaR ja1 jcp jbc jbV ja3 jbH jaT jbO jaq jac jbI jbl jbn jba jaa x1 x2 jaR jcB jcC jbo jbp jbk jcF jbe jbq jef jbm jbi jcd jaT jbb jbr jaR jb6 jbb cyI jbQ jb6 jbW jbL jck jcc jdh jcc cyI jfl jck cyI jfK jbW cyI jdN jbL cyI jdi jcF cyI jfQ)) hP hD [2, 3] [0, 1, 4, 5, 6, 7, 8, 9] [0, 1, 8, 9, 2, 3, 4, 5, 6, 7] hCc rfl (by decide +kernel) (by decide +kernel) (by decide +kernel) rfl hk1 hFc hP1 hD1
      generalize H1 = H at hP hS ⊢
      exact vx_ret (W.widen (k := 2) (n := 12) (nbq rfl) (nbq rfl) (W.iret (v := r14) hx hb hr (fun t ht hW => ⟨⟨r14, (x1, x2, jfl, jfK), rfl, hw, by rw [ht]; exact hP, va_K.moved hW.alike hK, hD⟩, hS.F ht⟩) hS.2.2 (qaa qjt 11 rfl)))
    · have hw := hw.2.2.2.2.1 c3
      refine lv_tableIn (tgt := 108) (off := 94) hx hb dX10_hare_14 (by rw [c3]; decide) (by rw [c3]; decide) (by rw [c3]; decide) (by decide) ?_
      refine lv_aload_n hx hb (qaa qjt 12 rfl) rfl (lv_at hl 0 rfl) ?_
      refine va_get (D := (dC, dI)) (ci := 10) (v := .ref jaT) (C := RX10) (T := TX10) (N := 19) hx hb hts qqn hown hK hP 0 rfl rfl 8 (by decide) (hts _ qr7) (fun _ h9 => h9) rfl (qaa qjt 13 rfl) ?_
      refine lv_iload_n hx hb (qaa qjt 14 rfl) rfl (lv_at hl 1 rfl) ?_
      obtain ⟨hCc, hPc, hDc, hFc⟩ := qac (ws' := (qDj jaT jbb jbr jaR jb6 jbb cyI jbQ)) hP hD hS hA [2, 3] (by decide +kernel) rfl
      refine va_calli (va_runV (As := [.int p1]) (rest := []) ⟨hx, hb, hml, hown, hts⟩ (qav0 l dC dI cyB cyI cyJ cyP jaT jbb H.size (jbr) (.ref jaR) (.ref jb6) jbQ p1 hw) (cwV 1 hts gX10_hare_X1_leaps rfl rfl rfl (by decide +kernel) ⟨nbq rfl, nbq rfl⟩) ⟨qab, va_recv (q := (RX1, TX1, 4)) hK hPc (ci := 1) (q0 := 0) rfl rfl, qae hPc hK hDc hNw⟩ rfl rfl hl.1 rfl (lv_room (nbq rfl)) (qaa qjt 15 rfl) ⟨nbq rfl, nbq rfl⟩) hS (fun q _ h => hFc q h) hFc (fun r15 u t H1 locs ht hvm hw hB hz1 hk1 hS => ?_)
      obtain ⟨hP1, hK1, hD1⟩ := hB
      rw [ht] at hP1
      obtain ⟨hP, hD⟩ := qad (wr := (qajc a0 jaK jaR ja1 jcp jbc jbV ja3 jbH jaT jbO jaq jac jbI jbl jbn jba jaa x1 x2 jaR jcB jcC jbo jbp jbk jcF jbe jbq jef jbm jbi jcd jb6 jbW jbL jck jcc jdh jcc cyI jfl jck cyI jfK jbW cyI jdN jbL cyI jdi jcF cyI jfQ)) (w1 := (qDj jaT jbb jbr jaR jb6 jbb cyI jbQ)) (wn := (qv9 a0 jaK jaR ja1 jcp jbc jbV ja3 jbH jaT jbO jaq jac jbI jbl jbn jba jaa x1 x2 jaR jcB jcC jbo jbp jbk jcF jbe jbq jef jbm jbi jcd jaT jbb jbr jaR jb6 jbb cyI jbQ jb6 jbW jbL jck jcc jdh jcc cyI jfl jck cyI jfK jbW cyI jdN jbL cyI jdi jcF cyI jfQ)) hP hD [2, 3] [0, 1, 4, 5, 6, 7, 8, 9] [0, 1, 8, 9, 2, 3, 4, 5, 6, 7] hCc rfl (by decide +kernel) (by decide +kernel) (by decide +kernel) rfl hk1 hFc hP1 hD1
      generalize H1 = H at hP hS ⊢
      exact vx_ret (W.widen (k := 2) (n := 12) (nbq rfl) (nbq rfl) (W.iret (v := r15) hx hb hr (fun t ht hW => ⟨⟨r15, (x1, x2, jfl, jfK), rfl, hw, by rw [ht]; exact hP, va_K.moved hW.alike hK, hD⟩, hS.F ht⟩) hS.2.2 (qaa qgF 0 rfl)))
    · have hw := hw.2.2.2.2.2.1 c3
      refine lv_tableIn (tgt := 117) (off := 103) hx hb dX10_hare_14 (by rw [c3]; decide) (by rw [c3]; decide) (by rw [c3]; decide) (by decide) ?_
      refine lv_aload_n hx hb (qaa qgF 1 rfl) rfl (lv_at hl 0 rfl) ?_
      refine va_get (D := (dC, dI)) (ci := 10) (v := .ref jaT) (C := RX10) (T := TX10) (N := 19) hx hb hts qqn hown hK hP 0 rfl rfl 8 (by decide) (hts _ qr7) (fun _ h9 => h9) rfl (qaa qgF 2 rfl) ?_
      refine lv_iload_n hx hb (qaa qgF 3 rfl) rfl (lv_at hl 1 rfl) ?_
      obtain ⟨hCc, hPc, hDc, hFc⟩ := qac (ws' := (qaOz jaT jbb jbr jaR jb6 jaR jcB jcC jbo jbp jbk jcF jbe jbq jef jbm jbi jcd jbb cyI jbQ)) hP hD hS hA [2, 1, 3] (by decide +kernel) rfl
      refine va_calli (va_runV (As := [.int p1]) (rest := []) ⟨hx, hb, hml, hown, hts⟩ (qajG l dC dI cyB cyI cyJ cyP jaT jaR jbb H.size (jbr) (.ref jb6) (jcB) (jcC) (jbo) (jbp) (jbk) (.ref jcF) (jbe) (jbq) (jef) (jbi) (jcd) jbm jbQ p1 hw) (cwV 1 hts gX10_hare_X1_owes rfl rfl rfl (by decide +kernel) ⟨nbq rfl, nbq rfl⟩) ⟨qab, va_recv (q := (RX1, TX1, 4)) hK hPc (ci := 1) (q0 := 0) rfl rfl, qae hPc hK hDc hNw⟩ rfl rfl hl.1 rfl (lv_room (nbq rfl)) (qaa qgF 4 rfl) ⟨nbq rfl, nbq rfl⟩) hS (fun q _ h => hFc q h) hFc (fun r16 u t H1 locs ht hvm hw hB hz1 hk1 hS => ?_)
      obtain ⟨hP1, hK1, hD1⟩ := hB
      rw [ht] at hP1
      obtain ⟨hP, hD⟩ := qad (wr := (qa5I a0 jaK jaR ja1 jcp jbc jbV ja3 jbH jaT jbO jaq jac jbI jbl jbn jba jaa x1 x2 jb6 jbW jbL jck jcc jdh jcc cyI jfl jck cyI jfK jbW cyI jdN jbL cyI jdi jcF cyI jfQ)) (w1 := (qaOz jaT jbb jbr jaR jb6 jaR jcB jcC jbo jbp jbk jcF jbe jbq jef jbm jbi jcd jbb cyI jbQ)) (wn := (qv9 a0 jaK jaR ja1 jcp jbc jbV ja3 jbH jaT jbO jaq jac jbI jbl jbn jba jaa x1 x2 jaR jcB jcC jbo jbp jbk jcF jbe jbq jef jbm jbi jcd jaT jbb jbr jaR jb6 jbb cyI jbQ jb6 jbW jbL jck jcc jdh jcc cyI jfl jck cyI jfK jbW cyI jdN jbL cyI jdi jcF cyI jfQ)) hP hD [2, 1, 3] [0, 4, 5, 6, 7, 8, 9] [0, 8, 7, 9, 1, 2, 3, 4, 5, 6] hCc rfl (by decide +kernel) (by decide +kernel) (by decide +kernel) rfl hk1 hFc hP1 hD1
      generalize H1 = H at hP hS ⊢
      exact vx_ret (W.widen (k := 2) (n := 12) (nbq rfl) (nbq rfl) (W.iret (v := r16) hx hb hr (fun t ht hW => ⟨⟨r16, (x1, x2, jfl, jfK), rfl, hw, by rw [ht]; exact hP, va_K.moved hW.alike hK, hD⟩, hS.F ht⟩) hS.2.2 (qaa qgF 5 rfl)))
    · have hw := hw.2.2.2.2.2.2 c3
      refine lv_tableIn (tgt := 126) (off := 112) hx hb dX10_hare_14 (by rw [c3]; decide) (by rw [c3]; decide) (by rw [c3]; decide) (by decide) ?_
      refine lv_aload_n hx hb (qaa qgF 6 rfl) rfl (lv_at hl 0 rfl) ?_
      refine va_get (D := (dC, dI)) (ci := 10) (v := .ref jaT) (C := RX10) (T := TX10) (N := 19) hx hb hts qqn hown hK hP 0 rfl rfl 8 (by decide) (hts _ qr7) (fun _ h9 => h9) rfl (qaa qgF 7 rfl) ?_
      refine lv_iload_n hx hb (qaa qgF 8 rfl) rfl (lv_at hl 1 rfl) ?_
      obtain ⟨hCc, hPc, hDc, hFc⟩ := qac (ws' := (qaOz jaT jbb jbr jaR jb6 jaR jcB jcC jbo jbp jbk jcF jbe jbq jef jbm jbi jcd jbb cyI jbQ)) hP hD hS hA [2, 1, 3] (by decide +kernel) rfl
      refine va_calli (va_runV (As := [.int p1]) (rest := []) ⟨hx, hb, hml, hown, hts⟩ (qai9 l dC dI cyB cyI cyJ cyP jaT jaR jbb H.size (jbr) (.ref jb6) (jcB) (jcC) (jbo) (jbp) (jbk) (.ref jcF) (jbe) (jbq) (jef) (jbi) (jcd) jbm jbQ p1 hw) (cwV 1 hts gX10_hare_X1_owed rfl rfl rfl (by decide +kernel) ⟨nbq rfl, nbq rfl⟩) ⟨qab, va_recv (q := (RX1, TX1, 4)) hK hPc (ci := 1) (q0 := 0) rfl rfl, qae hPc hK hDc hNw⟩ rfl rfl hl.1 rfl (lv_room (nbq rfl)) (qaa qgF 9 rfl) ⟨nbq rfl, nbq rfl⟩) hS (fun q _ h => hFc q h) hFc (fun r17 u t H1 locs ht hvm hw hB hz1 hk1 hS => ?_)
      obtain ⟨hP1, hK1, hD1⟩ := hB
      rw [ht] at hP1
      obtain ⟨hP, hD⟩ := qad (wr := (qa5I a0 jaK jaR ja1 jcp jbc jbV ja3 jbH jaT jbO jaq jac jbI jbl jbn jba jaa x1 x2 jb6 jbW jbL jck jcc jdh jcc cyI jfl jck cyI jfK jbW cyI jdN jbL cyI jdi jcF cyI jfQ)) (w1 := (qaOz jaT jbb jbr jaR jb6 jaR jcB jcC jbo jbp jbk jcF jbe jbq jef jbm jbi jcd jbb cyI jbQ)) (wn := (qv9 a0 jaK jaR ja1 jcp jbc jbV ja3 jbH jaT jbO jaq jac jbI jbl jbn jba jaa x1 x2 jaR jcB jcC jbo jbp jbk jcF jbe jbq jef jbm jbi jcd jaT jbb jbr jaR jb6 jbb cyI jbQ jb6 jbW jbL jck jcc jdh jcc cyI jfl jck cyI jfK jbW cyI jdN jbL cyI jdi jcF cyI jfQ)) hP hD [2, 1, 3] [0, 4, 5, 6, 7, 8, 9] [0, 8, 7, 9, 1, 2, 3, 4, 5, 6] hCc rfl (by decide +kernel) (by decide +kernel) (by decide +kernel) rfl hk1 hFc hP1 hD1
      generalize H1 = H at hP hS ⊢
      exact vx_ret (W.widen (k := 2) (n := 12) (nbq rfl) (nbq rfl) (W.iret (v := r17) hx hb hr (fun t ht hW => ⟨⟨r17, (x1, x2, jfl, jfK), rfl, hw, by rw [ht]; exact hP, va_K.moved hW.alike hK, hD⟩, hS.F ht⟩) hS.2.2 (qaa qgF 10 rfl)))
theorem qaJP : (.classLink RL 13 "java/lang/IllegalArgumentException" : Cond) ∈ wsL_hare := qaeh 595 (by decide +kernel)
theorem q70 : (.classLink RL 31 "java/util/NoSuchElementException" : Cond) ∈ wsL_hare := qaeh 2639 (by decide +kernel)
theorem qaUE : (.codeWith yL_hare cL_hare 5 (some .int) [(0, 10, 13, 31), (0, 10, 17, 13)] : Cond) ∈ wsL_hare := qaeh 2705 (by decide +kernel)
set_option maxHeartbeats 4000000 in
set_option maxRecDepth 100000 in
theorem qa6b (l : Launch) (dC : Nat → ClassId) (dI : Nat → Nat → Nat) (cyB cyI cyJ cyP : ClassId) (a0 a3 jaR jaT jbb jb6 jcc jck jbW jbL jcF sz : Nat) (jaK ja1 jbc jbV ja3 jbH jbO jaq jac jbI jbl jbn jba jaa jcB jcC jbo jbp jbk jbe jbq jef jbi jcd jbr : Value) (n3 : Nat) (jbm : Int32) (jbQ : NI) (jdh : Int32) (jdN jdi jfQ : NI) (jdu jbz : Int32) (jfl jfK : NI) (f3 : Nat → Int64) (p1 p2 : Int32) {Q : Int32 → Int32 → Int32 → NI → NI → (Nat → Int64) → Prop} (hw : qaTL n3 jbm jbQ jdh jdN jdi jfQ jdu jbz jfl jfK f3 p1 p2 Q) : Met l yL_hare wsL_hare ({ frames := 9, cells := 2, slots := 12, locals := 186 }) (va_Pc [.ref a0, .int p1, .int p2, .ref a3] (cPx l (dC, dI) (kT cyB cyI cyJ cyP) (qMp a0 jaK jaR ja1 jb6 jbc jbV ja3 jbH jaT jbO jaq jac jbI jbl jbn jba jaa jdu jbz jaR jcB jcC jbo jbp jbk jcF jbe jbq jef jbm jbi jcd jaT jbb jbr jaR jb6 jbb cyI jbQ jb6 jbW jbL jck jcc jdh jcc cyI jfl jck cyI jfK jbW cyI jdN jbL cyI jdi jcF cyI jfQ a3 cyJ n3 f3) sz)) (va_Qi (fun (r : Int32) (u : Int32 × Int32 × NI × NI × (Nat → Int64)) => Q r u.1 u.2.1 u.2.2.1 u.2.2.2.1 u.2.2.2.2) (cB (dC, dI) (kT cyB cyI cyJ cyP) (va_A (qMp a0 jaK jaR ja1 jb6 jbc jbV ja3 jbH jaT jbO jaq jac jbI jbl jbn jba jaa jdu jbz jaR jcB jcC jbo jbp jbk jcF jbe jbq jef jbm jbi jcd jaT jbb jbr jaR jb6 jbb cyI jbQ jb6 jbW jbL jck jcc jdh jcc cyI jfl jck cyI jfK jbW cyI jdN jbL cyI jdi jcF cyI jfQ a3 cyJ n3 f3) sz) (fun u : Int32 × Int32 × NI × NI × (Nat → Int64) => ((qMp a0 jaK jaR ja1 jb6 jbc jbV ja3 jbH jaT jbO jaq jac jbI jbl jbn jba jaa u.1 u.2.1 jaR jcB jcC jbo jbp jbk jcF jbe jbq jef jbm jbi jcd jaT jbb jbr jaR jb6 jbb cyI jbQ jb6 jbW jbL jck jcc jdh jcc cyI u.2.2.1 jck cyI u.2.2.2.1 jbW cyI jdN jbL cyI jdi jcF cyI jfQ a3 cyJ n3 u.2.2.2.2) : va_W))) (va_A (qMp a0 jaK jaR ja1 jb6 jbc jbV ja3 jbH jaT jbO jaq jac jbI jbl jbn jba jaa jdu jbz jaR jcB jcC jbo jbp jbk jcF jbe jbq jef jbm jbi jcd jaT jbb jbr jaR jb6 jbb cyI jbQ jb6 jbW jbL jck jcc jdh jcc cyI jfl jck cyI jfK jbW cyI jdN jbL cyI jdi jcF cyI jfQ a3 cyJ n3 f3) sz)) 2 12 (va_A (qMp a0 jaK jaR ja1 jb6 jbc jbV ja3 jbH jaT jbO jaq jac jbI jbl jbn jba jaa jdu jbz jaR jcB jcC jbo jbp jbk jcF jbe jbq jef jbm jbi jcd jaT jbb jbr jaR jb6 jbb cyI jbQ jb6 jbW jbL jck jcc jdh jcc cyI jfl jck cyI jfK jbW cyI jdN jbL cyI jdi jcF cyI jfQ a3 cyJ n3 f3) sz) := by
  refine va_MetW (cc := cL_hare) (maxL := 5) (ret := (some .int)) (by decide) rfl ?_
  intro p e s m args below meth c s₁ B hml hv
  obtain ⟨rfl, hsz, hP, hK, hD0, hNw, hXl, hXu, hXn, hXt⟩ := hv
  have hx := B.exec
  have hb := B.bytes
  have hr := B.returns
  have hts := atoms_spec (ws := wsL_hare) B.pre
  have hown : s.vm.findClass RL = some m.cls := findClass_of_methodNamed B.named
  have hlocks := B.notSynchronized
  subst hsz
  have hD := hD0.self (sz := s.heap.size)
  generalize hAe : va_A (qMp a0 jaK jaR ja1 jb6 jbc jbV ja3 jbH jaT jbO jaq jac jbI jbl jbn jba jaa jdu jbz jaR jcB jcC jbo jbp jbk jcF jbe jbq jef jbm jbi jcd jaT jbb jbr jaR jb6 jbb cyI jbQ jb6 jbW jbL jck jcc jdh jcc cyI jfl jck cyI jfK jbW cyI jdN jbL cyI jdi jcF cyI jfQ a3 cyJ n3 f3) s.heap.size = A at hD hXu hXn ⊢
  have hA : ∀ q : Nat, s.heap.size ≤ q → A q := fun q h => by rw [← hAe]; exact Or.inr h
  have hS : va_S A s.heap s.heap [] := va_S.rf
  have hP : va_P (dC, dI) vwCl (qMp a0 jaK jaR ja1 jb6 jbc jbV ja3 jbH jaT jbO jaq jac jbI jbl jbn jba jaa jdu jbz jaR jcB jcC jbo jbp jbk jcF jbe jbq jef jbm jbi jcd jaT jbb jbr jaR jb6 jbb cyI jbQ jb6 jbW jbL jck jcc jdh jcc cyI jfl jck cyI jfK jbW cyI jdN jbL cyI jdi jcF cyI jfQ a3 cyJ n3 f3) s.heap := hP
  have hl := lv_entry ([.ref a0, .int p1, .int p2, .ref a3]) (n := 5) (nbq rfl)
  rw [lg_entry_eq]
  generalize (lg_sl ([.ref a0, .int p1, .int p2, .ref a3]) ++ List.replicate (5 - (lg_sl ([.ref a0, .int p1, .int p2, .ref a3])).length) Slot.unset).toArray = ls at hl ⊢
  have hl : lv_has ls 5 [(0, .ref a0), (1, .int p1), (2, .int p2), (3, .ref a3)] := hl
  have hY : cfY l s A := ⟨hXl, hXu, hXn, hXt⟩
  have hTb := vx_table (x := yL_hare) B (hts _ qaUE)
  clear hAe
  obtain ⟨H, hH⟩ : ∃ H, H = s.heap := ⟨_, rfl⟩
  rw [← hH] at hP ⊢
  have hS : va_S A s.heap H [] := by rw [hH]; exact va_S.rf
  have hS := hS
  refine lv_aload_n hx hb (qaa qqb 0 rfl) rfl (lv_at hl 3 rfl) ?_
  refine lv_iconst (v := 0) hx hb (qaa qqb 1 rfl) (by decide) ?_
  refine lv_aload_n hx hb (qaa qqb 2 rfl) rfl (lv_at hl 0 rfl) ?_
  refine lv_iload_n hx hb (qaa qqb 3 rfl) rfl (lv_at hl 1 rfl) ?_
  refine lv_iload_n hx hb (qaa qqb 4 rfl) rfl (lv_at hl 2 rfl) ?_
  obtain ⟨hCc, hPc, hDc, hFc⟩ := qac (ws' := (qaYh a0 jaK jaR ja1 jb6 jbc jbV ja3 jbH jaT jbO jaq jac jbI jbl jbn jba jaa jdu jbz jaR jcB jcC jbo jbp jbk jcF jbe jbq jef jbm jbi jcd jaT jbb jbr jaR jb6 jbb cyI jbQ jb6 jbW jbL jck jcc jdh jcc cyI jfl jck cyI jfK jbW cyI jdN jbL cyI jdi jcF cyI jfQ)) hP hD hS hA [0, 1, 2, 3, 4, 5, 6, 7, 8, 9] (by decide +kernel) rfl
  refine vx_calli (vx_runV (As := [.int p1, .int p2]) (rest := [.int 0, .ref a3]) ⟨hx, hb, hml, hown, hts⟩ (qaXG l dC dI cyB cyI cyJ cyP a0 jaR jaT jbb jb6 jcc jck jbW jbL jcF H.size (jaK) (ja1) (.ref jb6) (jbc) (jbV) (ja3) (jbH) (jbO) (jaq) (jac) (jbI) (jbl) (jbn) (jba) (jaa) (jcB) (jcC) (jbo) (jbp) (jbk) (jbe) (jbq) (jef) (jbi) (jcd) (jbr) jbm jbQ jdh jdN jdi jfQ jdu jbz jfl jfK p1 p2 hw) (cwV 2 hts gL_hare_X10_hare rfl rfl rfl (by decide +kernel) ⟨nbq rfl, nbq rfl⟩) ⟨qau, va_recv (q := (RX10, TX10, 19)) hK hPc (ci := 10) (q0 := 0) rfl rfl, qbk hPc hK hDc hNw hY hS hFc⟩ rfl rfl hl.1 rfl (lv_room (nbq rfl)) (qaa qqb 5 rfl) ⟨nbq rfl, nbq rfl⟩) hS (fun q _ h => hFc q h) hFc (fun q _ h => hFc q h) (fun en ce qx9 u t H1 locs ht hvm hpx hB hz1 hk1 hS hc9 hv9 hcl9 => ?_) (fun r6 u t H1 locs ht hvm hw hB hz1 hk1 hS => ?_)
  · obtain ⟨x1, x2, f4, f5⟩ := u
    obtain ⟨hw, hP1, hK1, hD1⟩ := hB
    rw [ht] at hP1
    obtain ⟨hP, hD⟩ := qad (wr := [(a3, .inl (cyJ, n3, .inr (.inl f3)))]) (w1 := (qaYh a0 jaK jaR ja1 jb6 jbc jbV ja3 jbH jaT jbO jaq jac jbI jbl jbn jba jaa x1 x2 jaR jcB jcC jbo jbp jbk jcF jbe jbq jef jbm jbi jcd jaT jbb jbr jaR jb6 jbb cyI jbQ jb6 jbW jbL jck jcc jdh jcc cyI f4 jck cyI f5 jbW cyI jdN jbL cyI jdi jcF cyI jfQ)) (wn := (qMp a0 jaK jaR ja1 jb6 jbc jbV ja3 jbH jaT jbO jaq jac jbI jbl jbn jba jaa x1 x2 jaR jcB jcC jbo jbp jbk jcF jbe jbq jef jbm jbi jcd jaT jbb jbr jaR jb6 jbb cyI jbQ jb6 jbW jbL jck jcc jdh jcc cyI f4 jck cyI f5 jbW cyI jdN jbL cyI jdi jcF cyI jfQ a3 cyJ n3 f3)) hP hD [0, 1, 2, 3, 4, 5, 6, 7, 8, 9] [10] [1, 2, 3, 4, 5, 6, 7, 8, 9, 10, 0] hCc rfl (by decide +kernel) (by decide +kernel) (by decide +kernel) rfl hk1 hFc hP1 hD1
    generalize H1 = H at hP hS hc9 ⊢
    rcases hw with ⟨rfl, hw⟩ | ⟨rfl, hw⟩
    · refine vx_catch (own := RL) (name := "java/util/NoSuchElementException") hown [] ⟨0, 10, 13, 31⟩ [⟨0, 10, 17, 13⟩] (hTb.trans rfl) (fun z hz => nomatch hz) (by decide) (by decide) (hts _ q70) (va_Nw.use rfl (hY.2.2.2.1.2 _ (List.mem_of_getElem? (i := 1) rfl))) hc9 hv9 hcl9 ?_
      refine lv_astore (lv' := [(4, .ref qx9), (0, .ref a0), (1, .int p1), (2, .int p2), (3, .ref a3)]) hx hb (qaa qqb 9 rfl) hl (by decide) rfl (fun ls hl => ?_)
      refine lv_iconst (v := 1) hx hb (qaa qqb 10 rfl) (by decide) ?_
      exact (W.widen (k := 2) (n := 12) (nbq rfl) (nbq rfl) (W.iret (v := 1) hx hb hr (fun t ht hW => ⟨⟨1, (x1, x2, f4, f5, f3), rfl, hw, by rw [ht]; exact hP, va_K.moved hW.alike hK, hD⟩, hS.F ht⟩) hS.2.2 (qaa qqb 11 rfl)))
    · refine vx_catch (own := RL) (name := "java/lang/IllegalArgumentException") hown [⟨0, 10, 13, 31⟩] ⟨0, 10, 17, 13⟩ [] (hTb.trans rfl) (fun z hz => by rw [List.mem_singleton.mp hz]; exact Or.inr ⟨by decide, _, (hts _ q70), hY.2.2.2.2.2⟩) (by decide) (by decide) (hts _ qaJP) (va_Nw.use rfl (hY.2.2.2.1.2 _ (List.mem_of_getElem? (i := 0) rfl))) hc9 hv9 hcl9 ?_
      refine lv_astore (lv' := [(4, .ref qx9), (0, .ref a0), (1, .int p1), (2, .int p2), (3, .ref a3)]) hx hb (qaa qqb 12 rfl) hl (by decide) rfl (fun ls hl => ?_)
      refine lv_iconst (v := 2) hx hb (qaa qqb 13 rfl) (by decide) ?_
      exact (W.widen (k := 2) (n := 12) (nbq rfl) (nbq rfl) (W.iret (v := 2) hx hb hr (fun t ht hW => ⟨⟨2, (x1, x2, f4, f5, f3), rfl, hw, by rw [ht]; exact hP, va_K.moved hW.alike hK, hD⟩, hS.F ht⟩) hS.2.2 (qaa qqb 14 rfl)))
  obtain ⟨x1, x2, f4, f5⟩ := u
  obtain ⟨hP1, hK1, hD1⟩ := hB
  rw [ht] at hP1
  obtain ⟨hP, hD⟩ := va_join (wr := [(a3, .inl (cyJ, n3, .inr (.inl f3)))]) (w1 := (qaYh a0 jaK jaR ja1 jb6 jbc jbV ja3 jbH jaT jbO jaq jac jbI jbl jbn jba jaa x1 x2 jaR jcB jcC jbo jbp jbk jcF jbe jbq jef jbm jbi jcd jaT jbb jbr jaR jb6 jbb cyI jbQ jb6 jbW jbL jck jcc jdh jcc cyI f4 jck cyI f5 jbW cyI jdN jbL cyI jdi jcF cyI jfQ)) hP hD [0, 1, 2, 3, 4, 5, 6, 7, 8, 9] [10] rfl rfl (by decide) (by decide) hk1 hFc hP1 hD1
  have hP : va_P (dC, dI) vwCl (qMp a0 jaK jaR ja1 jb6 jbc jbV ja3 jbH jaT jbO jaq jac jbI jbl jbn jba jaa x1 x2 jaR jcB jcC jbo jbp jbk jcF jbe jbq jef jbm jbi jcd jaT jbb jbr jaR jb6 jbb cyI jbQ jb6 jbW jbL jck jcc jdh jcc cyI f4 jck cyI f5 jbW cyI jdN jbL cyI jdi jcF cyI jfQ a3 cyJ n3 f3) H1 := hP.sub [1, 2, 3, 4, 5, 6, 7, 8, 9, 10, 0] rfl
  have hD : va_D A (qMp a0 jaK jaR ja1 jb6 jbc jbV ja3 jbH jaT jbO jaq jac jbI jbl jbn jba jaa x1 x2 jaR jcB jcC jbo jbp jbk jcF jbe jbq jef jbm jbi jcd jaT jbb jbr jaR jb6 jbb cyI jbQ jb6 jbW jbL jck jcc jdh jcc cyI f4 jck cyI f5 jbW cyI jdN jbL cyI jdi jcF cyI jfQ a3 cyJ n3 f3) := hD.sub [1, 2, 3, 4, 5, 6, 7, 8, 9, 10, 0] (by decide) rfl
  generalize H1 = H at hP hS ⊢
  refine lv_i2l (v := r6.toInt64) hx hb (qaa qqb 6 rfl) rfl ?_
  refine lv_topl (fun x7 ex7 => ?_)
  have hw := hw x7 ex7
  obtain ⟨hi9, hw⟩ := hw
  refine va_last hx hb hK hP hD hS 10 2 rfl rfl hi9 (qaa qqb 7 rfl) (fun H locs hP hD hS => ?_)
  obtain ⟨f8, ef8⟩ : ∃ y : Nat → Int64, y = vp_updL f3 (0 : Int32).toNatClampNeg x7 := ⟨_, rfl⟩
  have hw := hw f8 ef8
  have hP : va_P (dC, dI) vwCl (qMp a0 jaK jaR ja1 jb6 jbc jbV ja3 jbH jaT jbO jaq jac jbI jbl jbn jba jaa x1 x2 jaR jcB jcC jbo jbp jbk jcF jbe jbq jef jbm jbi jcd jaT jbb jbr jaR jb6 jbb cyI jbQ jb6 jbW jbL jck jcc jdh jcc cyI f4 jck cyI f5 jbW cyI jdN jbL cyI jdi jcF cyI jfQ a3 cyJ n3 f8) H := by rw [ef8]; exact hP
  have hD : va_D A (qMp a0 jaK jaR ja1 jb6 jbc jbV ja3 jbH jaT jbO jaq jac jbI jbl jbn jba jaa x1 x2 jaR jcB jcC jbo jbp jbk jcF jbe jbq jef jbm jbi jcd jaT jbb jbr jaR jb6 jbb cyI jbQ jb6 jbW jbL jck jcc jdh jcc cyI f4 jck cyI f5 jbW cyI jdN jbL cyI jdi jcF cyI jfQ a3 cyJ n3 f8) := by rw [ef8]; exact hD
  refine lv_goto (tgt := 21) hx hb (qaa qqb 8 rfl) (by decide) ?_
  refine lv_iconst (v := 0) hx hb (qaa qqb 15 rfl) (by decide) ?_
  exact (W.widen (k := 2) (n := 12) (nbq rfl) (nbq rfl) (W.iret (v := 0) hx hb hr (fun t ht hW => ⟨⟨0, (x1, x2, f4, f5, f8), rfl, hw, by rw [ht]; exact hP, va_K.moved hW.alike hK, hD⟩, hS.F ht⟩) hS.2.2 (qaa qaTO 0 rfl)))
theorem q6z : ∀ w ∈ u_ws RX2 TX2 12, w ∈ wsX2_formsWithin := uiM qEs qLg (by decide +kernel)
theorem q3T : (.fieldLink RX2 36 "MarchHares$Down" "forms" "I" : Cond) ∈ wsX2_formsWithin := qEs 720 (by decide +kernel)
set_option maxHeartbeats 4000000 in
set_option maxRecDepth 100000 in
theorem qNq {p : Program} {l : Launch} {e : Env} {s : State} {m : MethodId} {args : Array Value} {below : List Frame} {meth : Method} {c : Code} {A : Nat → Prop} (dC : Nat → ClassId) (dI : Nat → Nat → Nat) (cyB cyI cyJ cyP : ClassId) (a0 jha jhi : Nat) (jlc jld jkJ jiT jj1 jjT ja4 jaP jkk : Value) (jaN : Int32) (jiR jiP : NI) (Q : Int32 → Prop) (K5 : Int32 → Int32 → Int32 → Int32 → Prop) (hK5 : ∀ (H : Heap) (locs : List Loc) (ls : Array Slot) (l1 l2 l3 l4 : Int32), va_P (dC, dI) vwCl (qnr a0 jha jhi jlc jld jkJ jiT jj1 jjT jaN ja4 jaP jkk jha cyI jiR jhi cyI jiP) H → va_D A (qnr a0 jha jhi jlc jld jkJ jiT jj1 jjT jaN ja4 jaP jkk jha cyI jiR jhi cyI jiP) → va_S A s.heap H locs → lv_has ls 5 [(0, .ref a0), (1, .int l1), (2, .int l2), (3, .int l3), (4, .int l4)] → K5 l1 l2 l3 l4 → W p l e (headSpec wsX2_formsWithin ({ frames := 2, cells := 0, slots := 0, locals := 54 })).room s m args below meth c H locs 0 0 (MQ below (va_Qi (fun (r : Int32) (_ : Unit) => Q r ) (cB (dC, dI) (kT cyB cyI cyJ cyP) A (fun u : Unit => ((qnr a0 jha jhi jlc jld jkJ jiT jj1 jjT jaN ja4 jaP jkk jha cyI jiR jhi cyI jiP) : va_W))) A) args s 0 0 A) (F0 m 5 ls [])) (C0 : cfx p s m args meth c cX2_formsWithin (some .int) wsX2_formsWithin RX2 5 A (dC, dI) (kT cyB cyI cyJ cyP)) : ∀ (H : Heap) (locs : List Loc) (ls : Array Slot) (l1 l2 l3 l4 : Int32), va_P (dC, dI) vwCl (qnr a0 jha jhi jlc jld jkJ jiT jj1 jjT jaN ja4 jaP jkk jha cyI jiR jhi cyI jiP) H → va_D A (qnr a0 jha jhi jlc jld jkJ jiT jj1 jjT jaN ja4 jaP jkk jha cyI jiR jhi cyI jiP) → va_S A s.heap H locs → lv_has ls 5 [(0, .ref a0), (1, .int l1), (2, .int l2), (3, .int l3), (4, .int l4)] → qDD jaN jiR jiP Q K5 l1 l2 l3 l4 → W p l e (headSpec wsX2_formsWithin ({ frames := 2, cells := 0, slots := 0, locals := 54 })).room s m args below meth c H locs 0 0 (MQ below (va_Qi (fun (r : Int32) (_ : Unit) => Q r ) (cB (dC, dI) (kT cyB cyI cyJ cyP) A (fun u : Unit => ((qnr a0 jha jhi jlc jld jkJ jiT jj1 jjT jaN ja4 jaP jkk jha cyI jiR jhi cyI jiP) : va_W))) A) args s 0 0 A) (F0 m 32 ls []) := by
  obtain ⟨hx, hb, hr, hts, hown, hlocks, hml, hA, hK, hNw⟩ := id C0
  intro H locs ls l1 l2 l3 l4 hP hD hS hl hw
  obtain ⟨x5, ex5⟩ : ∃ y : Int32, y = l4 + 1 := ⟨_, rfl⟩
  have hw := hw x5 ex5
  refine lv_iinc (v := x5) (lv' := [(4, .int x5), (0, .ref a0), (1, .int l1), (2, .int l2), (3, .int l3)]) hx hb (qaa qou 4 rfl) hl (k := 4) rfl (by rw [ex5]; rfl) (by decide) rfl (fun ls hl => ?_)
  refine lv_goto (tgt := 5) hx hb (qaa qou 5 rfl) (by decide) ?_
  exact hK5 _ _ _ l1 l2 l3 x5 hP hD hS (lv_sub hl [1, 2, 3, 4, 0] rfl) hw
set_option maxHeartbeats 4000000 in
set_option maxRecDepth 100000 in
theorem q9f {p : Program} {l : Launch} {e : Env} {s : State} {m : MethodId} {args : Array Value} {below : List Frame} {meth : Method} {c : Code} {A : Nat → Prop} (dC : Nat → ClassId) (dI : Nat → Nat → Nat) (cyB cyI cyJ cyP : ClassId) (a0 jha jhi : Nat) (jlc jld jkJ jiT jj1 jjT ja4 jaP jkk : Value) (jaN : Int32) (jiR jiP : NI) (Q : Int32 → Prop) (C0 : cfx p s m args meth c cX2_formsWithin (some .int) wsX2_formsWithin RX2 5 A (dC, dI) (kT cyB cyI cyJ cyP)) : ∀ (n : Nat) (H : Heap) (locs : List Loc) (ls : Array Slot) (l1 l2 l3 l4 : Int32), va_P (dC, dI) vwCl (qnr a0 jha jhi jlc jld jkJ jiT jj1 jjT jaN ja4 jaP jkk jha cyI jiR jhi cyI jiP) H → va_D A (qnr a0 jha jhi jlc jld jkJ jiT jj1 jjT jaN ja4 jaP jkk jha cyI jiR jhi cyI jiP) → va_S A s.heap H locs → lv_has ls 5 [(0, .ref a0), (1, .int l1), (2, .int l2), (3, .int l3), (4, .int l4)] → qo9 jaN jiR jiP Q n l1 l2 l3 l4 → W p l e (headSpec wsX2_formsWithin ({ frames := 2, cells := 0, slots := 0, locals := 54 })).room s m args below meth c H locs 0 0 (MQ below (va_Qi (fun (r : Int32) (_ : Unit) => Q r ) (cB (dC, dI) (kT cyB cyI cyJ cyP) A (fun u : Unit => ((qnr a0 jha jhi jlc jld jkJ jiT jj1 jjT jaN ja4 jaP jkk jha cyI jiR jhi cyI jiP) : va_W))) A) args s 0 0 A) (F0 m 5 ls []) := by
  obtain ⟨hx, hb, hr, hts, hown, hlocks, hml, hA, hK, hNw⟩ := id C0
  intro n
  induction n with
  | zero => intro H locs ls l1 l2 l3 l4 hP hD hS hl hw; exact False.elim hw
  | succ n ih =>
    intro H locs ls l1 l2 l3 l4 hP hD hS hl hw
    refine lv_iload hx hb (qaa qcH 4 rfl) (lv_at hl 4 rfl) ?_
    refine lv_aload_n hx hb (qaa qcH 5 rfl) rfl (lv_at hl 0 rfl) ?_
    refine va_get (D := (dC, dI)) (ci := 2) (v := .int jaN) (C := RX2) (T := TX2) (N := 12) hx hb hts q6z hown hK hP 0 rfl rfl 8 (by decide) (hts _ q3T) (fun _ h9 => h9) rfl (qaa qcH 6 rfl) ?_
    refine lv_icmp_ge (tgt := 38) hx hb (qaa qcH 7 rfl) (by decide) (fun c1 => ?_) (fun c1 => ?_)
    · have hw := hw.1 c1
      refine lv_iload_n hx hb (qaa qou 6 rfl) rfl (lv_at hl 3 rfl) ?_
      exact ((W.iret (v := l3) hx hb hr (fun t ht hW => ⟨⟨l3, (), rfl, hw, by rw [ht]; exact hP, va_K.moved hW.alike hK, hD⟩, hS.F ht⟩) hS.2.2 (qaa qou 7 rfl)))
    · have hw := hw.2 c1
      refine lv_aload_n hx hb (qaa qcH 8 rfl) rfl (lv_at hl 0 rfl) ?_
      refine lv_iload_n hx hb (qaa qcH 9 rfl) rfl (lv_at hl 1 rfl) ?_
      refine lv_iload hx hb (qaa qcH 10 rfl) (lv_at hl 4 rfl) ?_
      obtain ⟨hCc, hPc, hDc, hFc⟩ := qac (ws' := (qnr a0 jha jhi jlc jld jkJ jiT jj1 jjT jaN ja4 jaP jkk jha cyI jiR jhi cyI jiP)) hP hD hS hA [0, 1, 2] (by decide +kernel) rfl
      refine va_calli (va_runV (As := [.int l1, .int l4]) (rest := []) ⟨hx, hb, hml, hown, hts⟩ (qCj l dC dI cyB cyI cyJ cyP a0 jha jhi H.size (jlc) (jld) (jkJ) (jiT) (jj1) (jjT) (.int jaN) (ja4) (jaP) (jkk) jiR jiP l1 l4 hw) (cwV 2 hts gX2_formsWithin_X2_apart rfl rfl rfl (by decide +kernel) ⟨nbq rfl, nbq rfl⟩) ⟨qab, va_recv (q := (RX2, TX2, 12)) hK hPc (ci := 2) (q0 := 0) rfl rfl, qae hPc hK hDc hNw⟩ rfl rfl hl.1 rfl (lv_room (nbq rfl)) (qaa qcH 11 rfl) ⟨nbq rfl, nbq rfl⟩) hS (fun q _ h => hFc q h) hFc (fun r2 u t H1 locs ht hvm hw hB hz1 hk1 hS => ?_)
      obtain ⟨hP1, hK1, hD1⟩ := hB
      rw [ht] at hP1
      obtain ⟨hP, hD⟩ := qah (wr := []) (w1 := (qnr a0 jha jhi jlc jld jkJ jiT jj1 jjT jaN ja4 jaP jkk jha cyI jiR jhi cyI jiP)) (wn := (qnr a0 jha jhi jlc jld jkJ jiT jj1 jjT jaN ja4 jaP jkk jha cyI jiR jhi cyI jiP)) hP hD [0, 1, 2] [] hCc rfl (by decide +kernel) (by decide +kernel) rfl hk1 hFc hP1 hD1
      generalize H1 = H at hP hS ⊢
      refine lv_iload_n hx hb (qaa qcH 12 rfl) rfl (lv_at hl 2 rfl) ?_
      refine lv_icmp_gt (tgt := 32) hx hb (qaa qcH 13 rfl) (by decide) (fun c3 => ?_) (fun c3 => ?_)
      · have hw := hw.1 c3
        exact qNq dC dI cyB cyI cyJ cyP a0 jha jhi jlc jld jkJ jiT jj1 jjT ja4 jaP jkk jaN jiR jiP Q (qo9 jaN jiR jiP Q n) ih C0 _ _ _ l1 l2 l3 l4 hP hD hS (lv_sub hl [0, 1, 2, 3, 4] rfl) hw
      · have hw := hw.2 c3
        refine lv_iload_n hx hb (qaa qcH 14 rfl) rfl (lv_at hl 3 rfl) ?_
        refine lv_iconst (v := 1) hx hb (qaa qcH 15 rfl) (by decide) ?_
        refine lv_iload hx hb (qaa qou 0 rfl) (lv_at hl 4 rfl) ?_
        refine lv_ishl hx hb (qaa qou 1 rfl) ?_
        refine lv_ior hx hb (qaa qou 2 rfl) ?_
        refine lv_topi (fun x4 ex4 => ?_)
        have hw := hw x4 ex4
        refine lv_istore_n (lv' := [(3, .int x4), (0, .ref a0), (1, .int l1), (2, .int l2), (4, .int l4)]) hx hb (qaa qou 3 rfl) rfl hl (by decide) rfl (fun ls hl => ?_)
        exact qNq dC dI cyB cyI cyJ cyP a0 jha jhi jlc jld jkJ jiT jj1 jjT ja4 jaP jkk jaN jiR jiP Q (qo9 jaN jiR jiP Q n) ih C0 _ _ _ l1 l2 x4 l4 hP hD hS (lv_sub hl [1, 2, 3, 0, 4] rfl) hw
set_option maxHeartbeats 4000000 in
set_option maxRecDepth 100000 in
theorem qJ8 (l : Launch) (dC : Nat → ClassId) (dI : Nat → Nat → Nat) (cyB cyI cyJ cyP : ClassId) (a0 jha jhi sz : Nat) (jlc jld jkJ jiT jj1 jjT ja4 jaP jkk : Value) (jaN : Int32) (jiR jiP : NI) (p1 p2 : Int32) {Q : Int32 → Prop} (hw : qyf jaN jiR jiP p1 p2 Q) : Met l yX2_formsWithin wsX2_formsWithin ({ frames := 2, cells := 0, slots := 0, locals := 54 }) (va_Pc [.ref a0, .int p1, .int p2] (cPc (dC, dI) (kT cyB cyI cyJ cyP) (qnr a0 jha jhi jlc jld jkJ jiT jj1 jjT jaN ja4 jaP jkk jha cyI jiR jhi cyI jiP) sz)) (va_Qi (fun (r : Int32) (_ : Unit) => Q r ) (cB (dC, dI) (kT cyB cyI cyJ cyP) (va_A (qnr a0 jha jhi jlc jld jkJ jiT jj1 jjT jaN ja4 jaP jkk jha cyI jiR jhi cyI jiP) sz) (fun u : Unit => ((qnr a0 jha jhi jlc jld jkJ jiT jj1 jjT jaN ja4 jaP jkk jha cyI jiR jhi cyI jiP) : va_W))) (va_A (qnr a0 jha jhi jlc jld jkJ jiT jj1 jjT jaN ja4 jaP jkk jha cyI jiR jhi cyI jiP) sz)) 0 0 (va_A (qnr a0 jha jhi jlc jld jkJ jiT jj1 jjT jaN ja4 jaP jkk jha cyI jiR jhi cyI jiP) sz) := by
  refine Met.ofW (cc := cX2_formsWithin) (maxL := 5) (ret := (some .int)) (by decide) rfl ?_
  intro p e s m args below meth c s₁ B hml hv
  obtain ⟨rfl, hsz, hP, hK, hD0, hNw⟩ := hv
  have hx := B.exec
  have hb := B.bytes
  have hr := B.returns
  have hts := atoms_spec (ws := wsX2_formsWithin) B.pre
  have hown : s.vm.findClass RX2 = some m.cls := findClass_of_methodNamed B.named
  have hlocks := B.notSynchronized
  subst hsz
  have hD := hD0.self (sz := s.heap.size)
  generalize hAe : va_A (qnr a0 jha jhi jlc jld jkJ jiT jj1 jjT jaN ja4 jaP jkk jha cyI jiR jhi cyI jiP) s.heap.size = A at hD ⊢
  have hA : ∀ q : Nat, s.heap.size ≤ q → A q := fun q h => by rw [← hAe]; exact Or.inr h
  have hS : va_S A s.heap s.heap [] := va_S.rf
  have hP : va_P (dC, dI) vwCl (qnr a0 jha jhi jlc jld jkJ jiT jj1 jjT jaN ja4 jaP jkk jha cyI jiR jhi cyI jiP) s.heap := hP
  have hl := lv_entry ([.ref a0, .int p1, .int p2]) (n := 5) (nbq rfl)
  rw [lg_entry_eq]
  generalize (lg_sl ([.ref a0, .int p1, .int p2]) ++ List.replicate (5 - (lg_sl ([.ref a0, .int p1, .int p2])).length) Slot.unset).toArray = ls at hl ⊢
  have hl : lv_has ls 5 [(0, .ref a0), (1, .int p1), (2, .int p2)] := hl
  have C0 : cfx p s m _ meth c cX2_formsWithin (some .int) wsX2_formsWithin RX2 5 A (dC, dI) (kT cyB cyI cyJ cyP) := ⟨hx, hb, hr, hts, hown, hlocks, hml, hA, hK, hNw⟩
  clear hAe
  obtain ⟨H, hH⟩ : ∃ H, H = s.heap := ⟨_, rfl⟩
  rw [← hH] at hP ⊢
  have hS : va_S A s.heap H [] := by rw [hH]; exact va_S.rf
  have hS := hS
  refine lv_iconst (v := 0) hx hb (qaa qcH 0 rfl) (by decide) ?_
  refine lv_istore_n (lv' := [(3, .int 0), (0, .ref a0), (1, .int p1), (2, .int p2)]) hx hb (qaa qcH 1 rfl) rfl hl (by decide) rfl (fun ls hl => ?_)
  refine lv_iconst (v := 0) hx hb (qaa qcH 2 rfl) (by decide) ?_
  refine lv_istore (lv' := [(4, .int 0), (3, .int 0), (0, .ref a0), (1, .int p1), (2, .int p2)]) hx hb (qaa qcH 3 rfl) hl (by decide) rfl (fun ls hl => ?_)
  obtain ⟨n9, hw⟩ := hw
  exact q9f dC dI cyB cyI cyJ cyP a0 jha jhi jlc jld jkJ jiT jj1 jjT ja4 jaP jkk jaN jiR jiP Q C0 n9 _ _ _ p1 p2 0 0 hP hD hS (lv_sub hl [2, 3, 4, 1, 0] rfl) hw
theorem q60 : ∀ w ∈ u_ws RX2 TX2 12, w ∈ wsX2_hopsBetween := uiM quz qLg (by decide +kernel)
theorem q3W : (.fieldLink RX2 36 "MarchHares$Down" "forms" "I" : Cond) ∈ wsX2_hopsBetween := quz 720 (by decide +kernel)
theorem qEb : (.initialized RX10 : Cond) ∈ wsX2_hopsBetween := quz 2 (by decide +kernel)
theorem qAc : (.static yX10_holds : Cond) ∈ wsX2_hopsBetween := quz 2052 (by decide +kernel)
set_option maxHeartbeats 4000000 in
set_option maxRecDepth 100000 in
theorem qNK {p : Program} {l : Launch} {e : Env} {s : State} {m : MethodId} {args : Array Value} {below : List Frame} {meth : Method} {c : Code} {A : Nat → Prop} (dC : Nat → ClassId) (dI : Nat → Nat → Nat) (cyB cyI cyJ cyP : ClassId) (a0 jha jhi : Nat) (jlc jld jkJ jiT jj1 jjT ja4 jaP jkk : Value) (jaN : Int32) (jiR jiP : NI) (Q : Int32 → Prop) (K8 : Int32 → Int32 → Int32 → Int32 → Prop) (K34 : Int32 → Int32 → Int32 → Int32 → Int32 → Int32 → Prop) (hK8 : ∀ (H : Heap) (locs : List Loc) (ls : Array Slot) (l2 l3 l4 l5 : Int32), va_P (dC, dI) vwCl (qnr a0 jha jhi jlc jld jkJ jiT jj1 jjT jaN ja4 jaP jkk jha cyI jiR jhi cyI jiP) H → va_D A (qnr a0 jha jhi jlc jld jkJ jiT jj1 jjT jaN ja4 jaP jkk jha cyI jiR jhi cyI jiP) → va_S A s.heap H locs → lv_has ls 8 [(0, .ref a0), (2, .int l2), (3, .int l3), (4, .int l4), (5, .int l5)] → K8 l2 l3 l4 l5 → W p l e (headSpec wsX2_hopsBetween ({ frames := 3, cells := 0, slots := 0, locals := 78 })).room s m args below meth c H locs 0 0 (MQ below (va_Qi (fun (r : Int32) (_ : Unit) => Q r ) (cB (dC, dI) (kT cyB cyI cyJ cyP) A (fun u : Unit => ((qnr a0 jha jhi jlc jld jkJ jiT jj1 jjT jaN ja4 jaP jkk jha cyI jiR jhi cyI jiP) : va_W))) A) args s 0 0 A) (F0 m 8 ls [])) (hK34 : ∀ (H : Heap) (locs : List Loc) (ls : Array Slot) (l2 l3 l4 l5 l6 l7 : Int32), va_P (dC, dI) vwCl (qnr a0 jha jhi jlc jld jkJ jiT jj1 jjT jaN ja4 jaP jkk jha cyI jiR jhi cyI jiP) H → va_D A (qnr a0 jha jhi jlc jld jkJ jiT jj1 jjT jaN ja4 jaP jkk jha cyI jiR jhi cyI jiP) → va_S A s.heap H locs → lv_has ls 8 [(0, .ref a0), (2, .int l2), (3, .int l3), (4, .int l4), (5, .int l5), (6, .int l6), (7, .int l7)] → K34 l2 l3 l4 l5 l6 l7 → W p l e (headSpec wsX2_hopsBetween ({ frames := 3, cells := 0, slots := 0, locals := 78 })).room s m args below meth c H locs 0 0 (MQ below (va_Qi (fun (r : Int32) (_ : Unit) => Q r ) (cB (dC, dI) (kT cyB cyI cyJ cyP) A (fun u : Unit => ((qnr a0 jha jhi jlc jld jkJ jiT jj1 jjT jaN ja4 jaP jkk jha cyI jiR jhi cyI jiP) : va_W))) A) args s 0 0 A) (F0 m 34 ls [])) (C0 : cfx p s m args meth c cX2_hopsBetween (some .int) wsX2_hopsBetween RX2 8 A (dC, dI) (kT cyB cyI cyJ cyP)) : ∀ (H : Heap) (locs : List Loc) (ls : Array Slot) (l2 l3 l4 l5 l6 l7 : Int32), va_P (dC, dI) vwCl (qnr a0 jha jhi jlc jld jkJ jiT jj1 jjT jaN ja4 jaP jkk jha cyI jiR jhi cyI jiP) H → va_D A (qnr a0 jha jhi jlc jld jkJ jiT jj1 jjT jaN ja4 jaP jkk jha cyI jiR jhi cyI jiP) → va_S A s.heap H locs → lv_has ls 8 [(0, .ref a0), (2, .int l2), (3, .int l3), (4, .int l4), (5, .int l5), (6, .int l6), (7, .int l7)] → qDM jaN jiR jiP Q K8 K34 l2 l3 l4 l5 l6 l7 → W p l e (headSpec wsX2_hopsBetween ({ frames := 3, cells := 0, slots := 0, locals := 78 })).room s m args below meth c H locs 0 0 (MQ below (va_Qi (fun (r : Int32) (_ : Unit) => Q r ) (cB (dC, dI) (kT cyB cyI cyJ cyP) A (fun u : Unit => ((qnr a0 jha jhi jlc jld jkJ jiT jj1 jjT jaN ja4 jaP jkk jha cyI jiR jhi cyI jiP) : va_W))) A) args s 0 0 A) (F0 m 65 ls []) := by
  obtain ⟨hx, hb, hr, hts, hown, hlocks, hml, hA, hK, hNw⟩ := id C0
  intro H locs ls l2 l3 l4 l5 l6 l7 hP hD hS hl hw
  obtain ⟨x11, ex11⟩ : ∃ y : Int32, y = l7 + 1 := ⟨_, rfl⟩
  have hw := hw x11 ex11
  refine lv_iinc (v := x11) (lv' := [(7, .int x11), (0, .ref a0), (2, .int l2), (3, .int l3), (4, .int l4), (5, .int l5), (6, .int l6)]) hx hb (qaa qkl 2 rfl) hl (k := 6) rfl (by rw [ex11]; rfl) (by decide) rfl (fun ls hl => ?_)
  refine lv_goto (tgt := 34) hx hb (qaa qkl 3 rfl) (by decide) ?_
  exact hK34 _ _ _ l2 l3 l4 l5 l6 x11 hP hD hS (lv_sub hl [1, 2, 3, 4, 5, 6, 0] rfl) hw
set_option maxHeartbeats 4000000 in
set_option maxRecDepth 100000 in
theorem q50 {p : Program} {l : Launch} {e : Env} {s : State} {m : MethodId} {args : Array Value} {below : List Frame} {meth : Method} {c : Code} {A : Nat → Prop} (dC : Nat → ClassId) (dI : Nat → Nat → Nat) (cyB cyI cyJ cyP : ClassId) (a0 jha jhi : Nat) (jlc jld jkJ jiT jj1 jjT ja4 jaP jkk : Value) (jaN : Int32) (jiR jiP : NI) (Q : Int32 → Prop) (K8 : Int32 → Int32 → Int32 → Int32 → Prop) (hK8 : ∀ (H : Heap) (locs : List Loc) (ls : Array Slot) (l2 l3 l4 l5 : Int32), va_P (dC, dI) vwCl (qnr a0 jha jhi jlc jld jkJ jiT jj1 jjT jaN ja4 jaP jkk jha cyI jiR jhi cyI jiP) H → va_D A (qnr a0 jha jhi jlc jld jkJ jiT jj1 jjT jaN ja4 jaP jkk jha cyI jiR jhi cyI jiP) → va_S A s.heap H locs → lv_has ls 8 [(0, .ref a0), (2, .int l2), (3, .int l3), (4, .int l4), (5, .int l5)] → K8 l2 l3 l4 l5 → W p l e (headSpec wsX2_hopsBetween ({ frames := 3, cells := 0, slots := 0, locals := 78 })).room s m args below meth c H locs 0 0 (MQ below (va_Qi (fun (r : Int32) (_ : Unit) => Q r ) (cB (dC, dI) (kT cyB cyI cyJ cyP) A (fun u : Unit => ((qnr a0 jha jhi jlc jld jkJ jiT jj1 jjT jaN ja4 jaP jkk jha cyI jiR jhi cyI jiP) : va_W))) A) args s 0 0 A) (F0 m 8 ls [])) (C0 : cfx p s m args meth c cX2_hopsBetween (some .int) wsX2_hopsBetween RX2 8 A (dC, dI) (kT cyB cyI cyJ cyP)) : ∀ (n : Nat) (H : Heap) (locs : List Loc) (ls : Array Slot) (l2 l3 l4 l5 l6 l7 : Int32), va_P (dC, dI) vwCl (qnr a0 jha jhi jlc jld jkJ jiT jj1 jjT jaN ja4 jaP jkk jha cyI jiR jhi cyI jiP) H → va_D A (qnr a0 jha jhi jlc jld jkJ jiT jj1 jjT jaN ja4 jaP jkk jha cyI jiR jhi cyI jiP) → va_S A s.heap H locs → lv_has ls 8 [(0, .ref a0), (2, .int l2), (3, .int l3), (4, .int l4), (5, .int l5), (6, .int l6), (7, .int l7)] → qol jaN jiR jiP Q K8 n l2 l3 l4 l5 l6 l7 → W p l e (headSpec wsX2_hopsBetween ({ frames := 3, cells := 0, slots := 0, locals := 78 })).room s m args below meth c H locs 0 0 (MQ below (va_Qi (fun (r : Int32) (_ : Unit) => Q r ) (cB (dC, dI) (kT cyB cyI cyJ cyP) A (fun u : Unit => ((qnr a0 jha jhi jlc jld jkJ jiT jj1 jjT jaN ja4 jaP jkk jha cyI jiR jhi cyI jiP) : va_W))) A) args s 0 0 A) (F0 m 34 ls []) := by
  obtain ⟨hx, hb, hr, hts, hown, hlocks, hml, hA, hK, hNw⟩ := id C0
  intro n
  induction n with
  | zero => intro H locs ls l2 l3 l4 l5 l6 l7 hP hD hS hl hw; exact False.elim hw
  | succ n ih =>
    intro H locs ls l2 l3 l4 l5 l6 l7 hP hD hS hl hw
    refine lv_iload hx hb (qaa qcu 3 rfl) (lv_at hl 6 rfl) ?_
    refine lv_aload_n hx hb (qaa qcu 4 rfl) rfl (lv_at hl 0 rfl) ?_
    refine va_get (D := (dC, dI)) (ci := 2) (v := .int jaN) (C := RX2) (T := TX2) (N := 12) hx hb hts q60 hown hK hP 0 rfl rfl 8 (by decide) (hts _ q3W) (fun _ h9 => h9) rfl (qaa qcu 5 rfl) ?_
    refine lv_icmp_ge (tgt := 71) hx hb (qaa qcu 6 rfl) (by decide) (fun c5 => ?_) (fun c5 => ?_)
    · have hw := hw.1 c5
      refine lv_iload hx hb (qaa qkl 4 rfl) (lv_at hl 5 rfl) ?_
      refine lv_istore (lv' := [(4, .int l6), (0, .ref a0), (2, .int l2), (3, .int l3), (5, .int l5), (6, .int l6), (7, .int l7)]) hx hb (qaa qkl 5 rfl) hl (by decide) rfl (fun ls hl => ?_)
      obtain ⟨x6, ex6⟩ : ∃ y : Int32, y = l5 + 1 := ⟨_, rfl⟩
      have hw := hw x6 ex6
      refine lv_iinc (v := x6) (lv' := [(5, .int x6), (4, .int l6), (0, .ref a0), (2, .int l2), (3, .int l3), (6, .int l6), (7, .int l7)]) hx hb (qaa qkl 6 rfl) hl (k := 4) rfl (by rw [ex6]; rfl) (by decide) rfl (fun ls hl => ?_)
      refine lv_goto (tgt := 8) hx hb (qaa qkl 7 rfl) (by decide) ?_
      exact hK8 _ _ _ l2 l3 l6 x6 hP hD hS (lv_sub hl [2, 3, 4, 1, 0] rfl) hw
    · have hw := hw.2 c5
      refine lv_iload hx hb (qaa qcu 7 rfl) (lv_at hl 3 rfl) ?_
      refine lv_iload hx hb (qaa qcu 8 rfl) (lv_at hl 6 rfl) ?_
      obtain ⟨hCc, hPc, hDc, hFc⟩ := qac (ws' := []) hP hD hS hA [] (by decide +kernel) rfl
      refine va_calli (va_runSN (As := [.int l4, .int l7]) (rest := []) ⟨hx, hb, hml, hown, hts⟩ (qnt l dC dI cyB cyI cyJ cyP H.size l4 l7 hw) ⟨(va_cnB 2 hts gX2_hopsBetween_X10_holds_n114 rfl rfl rfl (qbaM hNw) (hts _ qEb) (by decide +kernel) ⟨nbq rfl, nbq rfl⟩), (hts _ qAc), trivial⟩ ⟨qab, qae hPc hK hDc hNw⟩ rfl rfl hl.1 rfl (lv_room (nbq rfl)) (qaa qcu 9 rfl) ⟨nbq rfl, nbq rfl⟩) hS (fun q _ h => hFc q h) hFc (fun r7 u t H1 locs ht hvm hw hB hz1 hk1 hS => ?_)
      obtain ⟨hP1, hK1, hD1⟩ := hB
      rw [ht] at hP1
      obtain ⟨hP, hD⟩ := qah (wr := (qnr a0 jha jhi jlc jld jkJ jiT jj1 jjT jaN ja4 jaP jkk jha cyI jiR jhi cyI jiP)) (w1 := []) (wn := (qnr a0 jha jhi jlc jld jkJ jiT jj1 jjT jaN ja4 jaP jkk jha cyI jiR jhi cyI jiP)) hP hD [] [0, 1, 2] hCc rfl (by decide +kernel) (by decide +kernel) rfl hk1 hFc hP1 hD1
      generalize H1 = H at hP hS ⊢
      refine lv_if_eq (tgt := 65) hx hb (qaa qcu 10 rfl) (by decide) (fun c8 => ?_) (fun c8 => ?_)
      · have hw := hw.1 c8
        exact qNK dC dI cyB cyI cyJ cyP a0 jha jhi jlc jld jkJ jiT jj1 jjT ja4 jaP jkk jaN jiR jiP Q K8 (qol jaN jiR jiP Q K8 n) hK8 ih C0 _ _ _ l2 l3 l4 l5 l6 l7 hP hD hS (lv_sub hl [0, 1, 2, 3, 4, 5, 6] rfl) hw
      · have hw := hw.2 c8
        refine lv_iload hx hb (qaa qcu 11 rfl) (lv_at hl 5 rfl) ?_
        refine lv_aload_n hx hb (qaa qcu 12 rfl) rfl (lv_at hl 0 rfl) ?_
        refine lv_iload hx hb (qaa qcu 13 rfl) (lv_at hl 6 rfl) ?_
        refine lv_iload_n hx hb (qaa qcu 14 rfl) rfl (lv_at hl 2 rfl) ?_
        obtain ⟨hCc, hPc, hDc, hFc⟩ := qac (ws' := (qnr a0 jha jhi jlc jld jkJ jiT jj1 jjT jaN ja4 jaP jkk jha cyI jiR jhi cyI jiP)) hP hD hS hA [0, 1, 2] (by decide +kernel) rfl
        refine va_calli (va_runV (As := [.int l7, .int l3]) (rest := [.int l6]) ⟨hx, hb, hml, hown, hts⟩ (qJ8 l dC dI cyB cyI cyJ cyP a0 jha jhi H.size (jlc) (jld) (jkJ) (jiT) (jj1) (jjT) (ja4) (jaP) (jkk) jaN jiR jiP l7 l3 hw) (cwV 2 hts gX2_hopsBetween_X2_formsWithin rfl rfl rfl (by decide +kernel) ⟨nbq rfl, nbq rfl⟩) ⟨qab, va_recv (q := (RX2, TX2, 12)) hK hPc (ci := 2) (q0 := 0) rfl rfl, qae hPc hK hDc hNw⟩ rfl rfl hl.1 rfl (lv_room (nbq rfl)) (qaa qcu 15 rfl) ⟨nbq rfl, nbq rfl⟩) hS (fun q _ h => hFc q h) hFc (fun r9 u t H1 locs ht hvm hw hB hz1 hk1 hS => ?_)
        obtain ⟨hP1, hK1, hD1⟩ := hB
        rw [ht] at hP1
        obtain ⟨hP, hD⟩ := qah (wr := []) (w1 := (qnr a0 jha jhi jlc jld jkJ jiT jj1 jjT jaN ja4 jaP jkk jha cyI jiR jhi cyI jiP)) (wn := (qnr a0 jha jhi jlc jld jkJ jiT jj1 jjT jaN ja4 jaP jkk jha cyI jiR jhi cyI jiP)) hP hD [0, 1, 2] [] hCc rfl (by decide +kernel) (by decide +kernel) rfl hk1 hFc hP1 hD1
        generalize H1 = H at hP hS ⊢
        refine lv_ior hx hb (qaa qkl 0 rfl) ?_
        refine lv_topi (fun x10 ex10 => ?_)
        have hw := hw x10 ex10
        refine lv_istore (lv' := [(6, .int x10), (0, .ref a0), (2, .int l2), (3, .int l3), (4, .int l4), (5, .int l5), (7, .int l7)]) hx hb (qaa qkl 1 rfl) hl (by decide) rfl (fun ls hl => ?_)
        exact qNK dC dI cyB cyI cyJ cyP a0 jha jhi jlc jld jkJ jiT jj1 jjT ja4 jaP jkk jaN jiR jiP Q K8 (qol jaN jiR jiP Q K8 n) hK8 ih C0 _ _ _ l2 l3 l4 l5 x10 l7 hP hD hS (lv_sub hl [1, 2, 3, 4, 5, 0, 6] rfl) hw
set_option maxHeartbeats 4000000 in
set_option maxRecDepth 100000 in
theorem q9w {p : Program} {l : Launch} {e : Env} {s : State} {m : MethodId} {args : Array Value} {below : List Frame} {meth : Method} {c : Code} {A : Nat → Prop} (dC : Nat → ClassId) (dI : Nat → Nat → Nat) (cyB cyI cyJ cyP : ClassId) (a0 jha jhi : Nat) (jlc jld jkJ jiT jj1 jjT ja4 jaP jkk : Value) (jaN : Int32) (jiR jiP : NI) (Q : Int32 → Prop) (C0 : cfx p s m args meth c cX2_hopsBetween (some .int) wsX2_hopsBetween RX2 8 A (dC, dI) (kT cyB cyI cyJ cyP)) : ∀ (n : Nat) (H : Heap) (locs : List Loc) (ls : Array Slot) (l2 l3 l4 l5 : Int32), va_P (dC, dI) vwCl (qnr a0 jha jhi jlc jld jkJ jiT jj1 jjT jaN ja4 jaP jkk jha cyI jiR jhi cyI jiP) H → va_D A (qnr a0 jha jhi jlc jld jkJ jiT jj1 jjT jaN ja4 jaP jkk jha cyI jiR jhi cyI jiP) → va_S A s.heap H locs → lv_has ls 8 [(0, .ref a0), (2, .int l2), (3, .int l3), (4, .int l4), (5, .int l5)] → qv0 jaN jiR jiP Q n l2 l3 l4 l5 → W p l e (headSpec wsX2_hopsBetween ({ frames := 3, cells := 0, slots := 0, locals := 78 })).room s m args below meth c H locs 0 0 (MQ below (va_Qi (fun (r : Int32) (_ : Unit) => Q r ) (cB (dC, dI) (kT cyB cyI cyJ cyP) A (fun u : Unit => ((qnr a0 jha jhi jlc jld jkJ jiT jj1 jjT jaN ja4 jaP jkk jha cyI jiR jhi cyI jiP) : va_W))) A) args s 0 0 A) (F0 m 8 ls []) := by
  obtain ⟨hx, hb, hr, hts, hown, hlocks, hml, hA, hK, hNw⟩ := id C0
  intro n
  induction n with
  | zero => intro H locs ls l2 l3 l4 l5 hP hD hS hl hw; exact False.elim hw
  | succ n ih =>
    intro H locs ls l2 l3 l4 l5 hP hD hS hl hw
    refine lv_iload hx hb (qaa qcO 6 rfl) (lv_at hl 4 rfl) ?_
    refine lv_bipush (v := 8) hx hb (qaa qcO 7 rfl) (by decide) ?_
    refine lv_icmp_ge (tgt := 81) hx hb (qaa qcO 8 rfl) (by decide) (fun c2 => ?_) (fun c2 => ?_)
    · have hw := hw.1 c2
      refine lv_iconst (v := (-1)) hx hb (qaa qkl 8 rfl) (by decide) ?_
      exact ((W.iret (v := (-1)) hx hb hr (fun t ht hW => ⟨⟨(-1), (), rfl, hw, by rw [ht]; exact hP, va_K.moved hW.alike hK, hD⟩, hS.F ht⟩) hS.2.2 (qaa qkl 9 rfl)))
    · have hw := hw.2 c2
      refine lv_iload hx hb (qaa qcO 9 rfl) (lv_at hl 3 rfl) ?_
      refine lv_iload_n hx hb (qaa qcO 10 rfl) rfl (lv_at hl 1 rfl) ?_
      obtain ⟨hCc, hPc, hDc, hFc⟩ := qac (ws' := []) hP hD hS hA [] (by decide +kernel) rfl
      refine va_calli (va_runSN (As := [.int l4, .int l2]) (rest := []) ⟨hx, hb, hml, hown, hts⟩ (qnt l dC dI cyB cyI cyJ cyP H.size l4 l2 hw) ⟨(va_cnB 2 hts gX2_hopsBetween_X10_holds_n114 rfl rfl rfl (qbaM hNw) (hts _ qEb) (by decide +kernel) ⟨nbq rfl, nbq rfl⟩), (hts _ qAc), trivial⟩ ⟨qab, qae hPc hK hDc hNw⟩ rfl rfl hl.1 rfl (lv_room (nbq rfl)) (qaa qcO 11 rfl) ⟨nbq rfl, nbq rfl⟩) hS (fun q _ h => hFc q h) hFc (fun r3 u t H1 locs ht hvm hw hB hz1 hk1 hS => ?_)
      obtain ⟨hP1, hK1, hD1⟩ := hB
      rw [ht] at hP1
      obtain ⟨hP, hD⟩ := qah (wr := (qnr a0 jha jhi jlc jld jkJ jiT jj1 jjT jaN ja4 jaP jkk jha cyI jiR jhi cyI jiP)) (w1 := []) (wn := (qnr a0 jha jhi jlc jld jkJ jiT jj1 jjT jaN ja4 jaP jkk jha cyI jiR jhi cyI jiP)) hP hD [] [0, 1, 2] hCc rfl (by decide +kernel) (by decide +kernel) rfl hk1 hFc hP1 hD1
      generalize H1 = H at hP hS ⊢
      refine lv_if_eq (tgt := 27) hx hb (qaa qcO 12 rfl) (by decide) (fun c4 => ?_) (fun c4 => ?_)
      · have hw := hw.1 c4
        refine lv_iload hx hb (qaa qcO 15 rfl) (lv_at hl 3 rfl) ?_
        refine lv_istore (lv' := [(6, .int l4), (0, .ref a0), (2, .int l2), (3, .int l3), (4, .int l4), (5, .int l5)]) hx hb (qaa qcu 0 rfl) hl (by decide) rfl (fun ls hl => ?_)
        refine lv_iconst (v := 0) hx hb (qaa qcu 1 rfl) (by decide) ?_
        refine lv_istore (lv' := [(7, .int 0), (6, .int l4), (0, .ref a0), (2, .int l2), (3, .int l3), (4, .int l4), (5, .int l5)]) hx hb (qaa qcu 2 rfl) hl (by decide) rfl (fun ls hl => ?_)
        obtain ⟨n9, hw⟩ := hw
        exact q50 dC dI cyB cyI cyJ cyP a0 jha jhi jlc jld jkJ jiT jj1 jjT ja4 jaP jkk jaN jiR jiP Q (qv0 jaN jiR jiP Q n) ih C0 n9 _ _ _ l2 l3 l4 l5 l4 0 hP hD hS (lv_sub hl [2, 3, 4, 5, 6, 1, 0] rfl) hw
      · have hw := hw.2 c4
        refine lv_iload hx hb (qaa qcO 13 rfl) (lv_at hl 4 rfl) ?_
        exact ((W.iret (v := l5) hx hb hr (fun t ht hW => ⟨⟨l5, (), rfl, hw, by rw [ht]; exact hP, va_K.moved hW.alike hK, hD⟩, hS.F ht⟩) hS.2.2 (qaa qcO 14 rfl)))
set_option maxHeartbeats 4000000 in
set_option maxRecDepth 100000 in
theorem qamS (l : Launch) (dC : Nat → ClassId) (dI : Nat → Nat → Nat) (cyB cyI cyJ cyP : ClassId) (a0 jha jhi sz : Nat) (jlc jld jkJ jiT jj1 jjT ja4 jaP jkk : Value) (jaN : Int32) (jiR jiP : NI) (p1 p2 p3 : Int32) {Q : Int32 → Prop} (hw : qJM jaN jiR jiP p1 p2 p3 Q) : Met l yX2_hopsBetween wsX2_hopsBetween ({ frames := 3, cells := 0, slots := 0, locals := 78 }) (va_Pc [.ref a0, .int p1, .int p2, .int p3] (cPc (dC, dI) (kT cyB cyI cyJ cyP) (qnr a0 jha jhi jlc jld jkJ jiT jj1 jjT jaN ja4 jaP jkk jha cyI jiR jhi cyI jiP) sz)) (va_Qi (fun (r : Int32) (_ : Unit) => Q r ) (cB (dC, dI) (kT cyB cyI cyJ cyP) (va_A (qnr a0 jha jhi jlc jld jkJ jiT jj1 jjT jaN ja4 jaP jkk jha cyI jiR jhi cyI jiP) sz) (fun u : Unit => ((qnr a0 jha jhi jlc jld jkJ jiT jj1 jjT jaN ja4 jaP jkk jha cyI jiR jhi cyI jiP) : va_W))) (va_A (qnr a0 jha jhi jlc jld jkJ jiT jj1 jjT jaN ja4 jaP jkk jha cyI jiR jhi cyI jiP) sz)) 0 0 (va_A (qnr a0 jha jhi jlc jld jkJ jiT jj1 jjT jaN ja4 jaP jkk jha cyI jiR jhi cyI jiP) sz) := by
  refine Met.ofW (cc := cX2_hopsBetween) (maxL := 8) (ret := (some .int)) (by decide) rfl ?_
  intro p e s m args below meth c s₁ B hml hv
  obtain ⟨rfl, hsz, hP, hK, hD0, hNw⟩ := hv
  have hx := B.exec
  have hb := B.bytes
  have hr := B.returns
  have hts := atoms_spec (ws := wsX2_hopsBetween) B.pre
  have hown : s.vm.findClass RX2 = some m.cls := findClass_of_methodNamed B.named
  have hlocks := B.notSynchronized
  subst hsz
  have hD := hD0.self (sz := s.heap.size)
  generalize hAe : va_A (qnr a0 jha jhi jlc jld jkJ jiT jj1 jjT jaN ja4 jaP jkk jha cyI jiR jhi cyI jiP) s.heap.size = A at hD ⊢
  have hA : ∀ q : Nat, s.heap.size ≤ q → A q := fun q h => by rw [← hAe]; exact Or.inr h
  have hS : va_S A s.heap s.heap [] := va_S.rf
  have hP : va_P (dC, dI) vwCl (qnr a0 jha jhi jlc jld jkJ jiT jj1 jjT jaN ja4 jaP jkk jha cyI jiR jhi cyI jiP) s.heap := hP
  have hl := lv_entry ([.ref a0, .int p1, .int p2, .int p3]) (n := 8) (nbq rfl)
  rw [lg_entry_eq]
  generalize (lg_sl ([.ref a0, .int p1, .int p2, .int p3]) ++ List.replicate (8 - (lg_sl ([.ref a0, .int p1, .int p2, .int p3])).length) Slot.unset).toArray = ls at hl ⊢
  have hl : lv_has ls 8 [(0, .ref a0), (1, .int p1), (2, .int p2), (3, .int p3)] := hl
  have C0 : cfx p s m _ meth c cX2_hopsBetween (some .int) wsX2_hopsBetween RX2 8 A (dC, dI) (kT cyB cyI cyJ cyP) := ⟨hx, hb, hr, hts, hown, hlocks, hml, hA, hK, hNw⟩
  clear hAe
  obtain ⟨H, hH⟩ : ∃ H, H = s.heap := ⟨_, rfl⟩
  rw [← hH] at hP ⊢
  have hS : va_S A s.heap H [] := by rw [hH]; exact va_S.rf
  have hS := hS
  refine lv_iconst (v := 1) hx hb (qaa qcO 0 rfl) (by decide) ?_
  refine lv_iload_n hx hb (qaa qcO 1 rfl) rfl (lv_at hl 1 rfl) ?_
  refine lv_ishl hx hb (qaa qcO 2 rfl) ?_
  refine lv_topi (fun x1 ex1 => ?_)
  have hw := hw x1 ex1
  refine lv_istore (lv' := [(4, .int x1), (0, .ref a0), (1, .int p1), (2, .int p2), (3, .int p3)]) hx hb (qaa qcO 3 rfl) hl (by decide) rfl (fun ls hl => ?_)
  refine lv_iconst (v := 0) hx hb (qaa qcO 4 rfl) (by decide) ?_
  refine lv_istore (lv' := [(5, .int 0), (4, .int x1), (0, .ref a0), (1, .int p1), (2, .int p2), (3, .int p3)]) hx hb (qaa qcO 5 rfl) hl (by decide) rfl (fun ls hl => ?_)
  obtain ⟨n9, hw⟩ := hw
  exact q9w dC dI cyB cyI cyJ cyP a0 jha jhi jlc jld jkJ jiT jj1 jjT ja4 jaP jkk jaN jiR jiP Q C0 n9 _ _ _ p2 p3 x1 0 hP hD hS (lv_sub hl [2, 4, 5, 1, 0] rfl) hw
theorem qH1 : ∀ w ∈ u_ws RX10 TX10 19, w ∈ wsX10_hops := uiM qtb qyE (by decide +kernel)
theorem qavj : (.fieldLink RX10 19 "MarchHares" "ground" "LMarchHares$Down;" : Cond) ∈ wsX10_hops := qtb 20 (by decide +kernel)
theorem qPX : (.fieldLink RX10 58 "MarchHares" "now" "LMarchHares$Days;" : Cond) ∈ wsX10_hops := qtb 79 (by decide +kernel)
set_option maxHeartbeats 4000000 in
set_option maxRecDepth 100000 in
theorem qaYD (l : Launch) (dC : Nat → ClassId) (dI : Nat → Nat → Nat) (cyB cyI cyJ cyP : ClassId) (a0 jaR jaT jbb jb6 jcc jck jbW jbL jbs jbt sz : Nat) (jaK ja1 jcp jbc jbV ja3 jbH jbO jaq jac jbI jbl jbn jba jaa jdD jbo jbp jbk jbj jbe jbq jbi jcd jbr : Value) (jbE jbm : Int32) (jbQ : NI) (jdh : Int32) (jdN jdi jci jcj : NI) (jdu : Int32) (jfl jfK : NI) (p1 p2 : Int32) {E : String → Int32 → NI → NI → Prop} {Q : Int32 → Int32 → NI → NI → Prop} (hw : qaaF jbE jbm jbQ jdh jdN jdi jci jcj jdu jfl jfK p1 p2 E Q) : vx_Met l yX10_hops wsX10_hops ({ frames := 7, cells := 2, slots := 12, locals := 141 }) (va_Pc [.ref a0, .int p1, .int p2] (cPx l (dC, dI) (kT cyB cyI cyJ cyP) (qAU a0 jaK jaR ja1 jcp jbc jbV ja3 jbH jaT jbO jaq jac jbI jbl jbn jba jaa jdu jdD jaR jbs jbt jbo jbp jbk jbj jbe jbq jbE jbm jbi jcd jaT jbb jbr jaR jb6 jbb cyI jbQ jb6 jbW jbL jck jcc jdh jcc cyI jfl jck cyI jfK jbW cyI jdN jbL cyI jdi jbs cyI jci jbt cyI jcj) sz)) (va_Qi (fun (r : Int32) (u : Int32 × NI × NI) => Q r u.1 u.2.1 u.2.2) (cB (dC, dI) (kT cyB cyI cyJ cyP) (va_A (qAU a0 jaK jaR ja1 jcp jbc jbV ja3 jbH jaT jbO jaq jac jbI jbl jbn jba jaa jdu jdD jaR jbs jbt jbo jbp jbk jbj jbe jbq jbE jbm jbi jcd jaT jbb jbr jaR jb6 jbb cyI jbQ jb6 jbW jbL jck jcc jdh jcc cyI jfl jck cyI jfK jbW cyI jdN jbL cyI jdi jbs cyI jci jbt cyI jcj) sz) (fun u : Int32 × NI × NI => ((qAU a0 jaK jaR ja1 jcp jbc jbV ja3 jbH jaT jbO jaq jac jbI jbl jbn jba jaa u.1 jdD jaR jbs jbt jbo jbp jbk jbj jbe jbq jbE jbm jbi jcd jaT jbb jbr jaR jb6 jbb cyI jbQ jb6 jbW jbL jck jcc jdh jcc cyI u.2.1 jck cyI u.2.2 jbW cyI jdN jbL cyI jdi jbs cyI jci jbt cyI jcj) : va_W))) (va_A (qAU a0 jaK jaR ja1 jcp jbc jbV ja3 jbH jaT jbO jaq jac jbI jbl jbn jba jaa jdu jdD jaR jbs jbt jbo jbp jbk jbj jbe jbq jbE jbm jbi jcd jaT jbb jbr jaR jb6 jbb cyI jbQ jb6 jbW jbL jck jcc jdh jcc cyI jfl jck cyI jfK jbW cyI jdN jbL cyI jdi jbs cyI jci jbt cyI jcj) sz)) (vx_X (fun _ => True) (fun (en : String) (u : Int32 × NI × NI) (t : State) => E en u.1 u.2.1 u.2.2 ∧ cB (dC, dI) (kT cyB cyI cyJ cyP) (va_A (qAU a0 jaK jaR ja1 jcp jbc jbV ja3 jbH jaT jbO jaq jac jbI jbl jbn jba jaa jdu jdD jaR jbs jbt jbo jbp jbk jbj jbe jbq jbE jbm jbi jcd jaT jbb jbr jaR jb6 jbb cyI jbQ jb6 jbW jbL jck jcc jdh jcc cyI jfl jck cyI jfK jbW cyI jdN jbL cyI jdi jbs cyI jci jbt cyI jcj) sz) (fun u : Int32 × NI × NI => ((qAU a0 jaK jaR ja1 jcp jbc jbV ja3 jbH jaT jbO jaq jac jbI jbl jbn jba jaa u.1 jdD jaR jbs jbt jbo jbp jbk jbj jbe jbq jbE jbm jbi jcd jaT jbb jbr jaR jb6 jbb cyI jbQ jb6 jbW jbL jck jcc jdh jcc cyI u.2.1 jck cyI u.2.2 jbW cyI jdN jbL cyI jdi jbs cyI jci jbt cyI jcj) : va_W)) u t) (va_A (qAU a0 jaK jaR ja1 jcp jbc jbV ja3 jbH jaT jbO jaq jac jbI jbl jbn jba jaa jdu jdD jaR jbs jbt jbo jbp jbk jbj jbe jbq jbE jbm jbi jcd jaT jbb jbr jaR jb6 jbb cyI jbQ jb6 jbW jbL jck jcc jdh jcc cyI jfl jck cyI jfK jbW cyI jdN jbL cyI jdi jbs cyI jci jbt cyI jcj) sz)) 2 12 (va_A (qAU a0 jaK jaR ja1 jcp jbc jbV ja3 jbH jaT jbO jaq jac jbI jbl jbn jba jaa jdu jdD jaR jbs jbt jbo jbp jbk jbj jbe jbq jbE jbm jbi jcd jaT jbb jbr jaR jb6 jbb cyI jbQ jb6 jbW jbL jck jcc jdh jcc cyI jfl jck cyI jfK jbW cyI jdN jbL cyI jdi jbs cyI jci jbt cyI jcj) sz) := by
  refine vx_ofW (cc := cX10_hops) (maxL := 3) (ret := (some .int)) (by decide) rfl ?_
  intro p e s m args below meth c s₁ B hml hnt hv
  obtain ⟨rfl, hsz, hP, hK, hD0, hNw, hXl, hXu, hXn, hXt⟩ := hv
  have hx := B.exec
  have hb := B.bytes
  have hr := B.returns
  have hts := atoms_spec (ws := wsX10_hops) B.pre
  have hown : s.vm.findClass RX10 = some m.cls := findClass_of_methodNamed B.named
  have hlocks := B.notSynchronized
  subst hsz
  have hD := hD0.self (sz := s.heap.size)
  generalize hAe : va_A (qAU a0 jaK jaR ja1 jcp jbc jbV ja3 jbH jaT jbO jaq jac jbI jbl jbn jba jaa jdu jdD jaR jbs jbt jbo jbp jbk jbj jbe jbq jbE jbm jbi jcd jaT jbb jbr jaR jb6 jbb cyI jbQ jb6 jbW jbL jck jcc jdh jcc cyI jfl jck cyI jfK jbW cyI jdN jbL cyI jdi jbs cyI jci jbt cyI jcj) s.heap.size = A at hD hXu hXn ⊢
  have hA : ∀ q : Nat, s.heap.size ≤ q → A q := fun q h => by rw [← hAe]; exact Or.inr h
  have hS : va_S A s.heap s.heap [] := va_S.rf
  have hP : va_P (dC, dI) vwCl (qAU a0 jaK jaR ja1 jcp jbc jbV ja3 jbH jaT jbO jaq jac jbI jbl jbn jba jaa jdu jdD jaR jbs jbt jbo jbp jbk jbj jbe jbq jbE jbm jbi jcd jaT jbb jbr jaR jb6 jbb cyI jbQ jb6 jbW jbL jck jcc jdh jcc cyI jfl jck cyI jfK jbW cyI jdN jbL cyI jdi jbs cyI jci jbt cyI jcj) s.heap := hP
  have hl := lv_entry ([.ref a0, .int p1, .int p2]) (n := 3) (nbq rfl)
  rw [lg_entry_eq]
  generalize (lg_sl ([.ref a0, .int p1, .int p2]) ++ List.replicate (3 - (lg_sl ([.ref a0, .int p1, .int p2])).length) Slot.unset).toArray = ls at hl ⊢
  have hl : lv_has ls 3 [(0, .ref a0), (1, .int p1), (2, .int p2)] := hl
  have hY : cfY l s A := ⟨hXl, hXu, hXn, hXt⟩
  have hXs : cfX l s c A := ⟨hnt, hY⟩
  have C0 : cfx p s m _ meth c cX10_hops (some .int) wsX10_hops RX10 3 A (dC, dI) (kT cyB cyI cyJ cyP) ∧ cfX l s c A := ⟨⟨hx, hb, hr, hts, hown, hlocks, hml, hA, hK, hNw⟩, hXs⟩
  clear hAe
  obtain ⟨H, hH⟩ : ∃ H, H = s.heap := ⟨_, rfl⟩
  rw [← hH] at hP ⊢
  have hS : va_S A s.heap H [] := by rw [hH]; exact va_S.rf
  have hS := hS
  refine lv_aload_n hx hb (qaa ql0 0 rfl) rfl (lv_at hl 0 rfl) ?_
  refine lv_iload_n hx hb (qaa ql0 1 rfl) rfl (lv_at hl 1 rfl) ?_
  obtain ⟨hCc, hPc, hDc, hFc⟩ := qac (ws' := (qam7 a0 jaK jaR ja1 jcp jbc jbV ja3 jbH jaT jbO jaq jac jbI jbl jbn jba jaa jdu jdD jaR jbs jbt jbo jbp jbk jbj jbe jbq jbE jbm jbi jcd)) hP hD hS hA [0, 1] (by decide +kernel) rfl
  refine vx_callv (vx_runV (As := [.int p1]) (rest := []) ⟨hx, hb, hml, hown, hts⟩ (qqH l dC dI cyB cyI cyJ cyP a0 jaR H.size (jaK) (ja1) (jcp) (jbc) (jbV) (ja3) (jbH) (.ref jaT) (jbO) (jaq) (jac) (jbI) (jbl) (jbn) (jba) (jaa) (jdD) (.ref jbs) (.ref jbt) (jbo) (jbp) (jbk) (jbj) (jbe) (jbq) (.int jbE) (jbi) (jcd) jbm jdu p1 hw) (cwV 1 hts gX10_hops_X10_needHare rfl rfl rfl (by decide +kernel) ⟨nbq rfl, nbq rfl⟩) ⟨qau, va_recv (q := (RX10, TX10, 19)) hK hPc (ci := 10) (q0 := 0) rfl rfl, qbk hPc hK hDc hNw hY hS hFc⟩ rfl rfl hl.1 rfl (lv_room (nbq rfl)) (qaa ql0 2 rfl) ⟨nbq rfl, nbq rfl⟩) hS (fun q _ h => hFc q h) hFc (fun q _ h => hFc q h) (fun en ce q9 u t H1 locs ht hvm hpx hB hz1 hk1 hS hc9 hv9 hcl9 => ?_) (fun u t H1 locs ht hvm hw hB hz1 hk1 hS => ?_)
  · obtain ⟨x1, rfl⟩ : ∃ z, z = u := ⟨_, rfl⟩
    obtain ⟨hw, hP1, hK1, hD1⟩ := hB
    rw [ht] at hP1
    obtain ⟨hP, hD⟩ := qad (wr := (qaPv jaT jbb jbr jaR jb6 jbb cyI jbQ jb6 jbW jbL jck jcc jdh jcc cyI jfl jck cyI jfK jbW cyI jdN jbL cyI jdi jbs cyI jci jbt cyI jcj)) (w1 := (qam7 a0 jaK jaR ja1 jcp jbc jbV ja3 jbH jaT jbO jaq jac jbI jbl jbn jba jaa x1 jdD jaR jbs jbt jbo jbp jbk jbj jbe jbq jbE jbm jbi jcd)) (wn := (qAU a0 jaK jaR ja1 jcp jbc jbV ja3 jbH jaT jbO jaq jac jbI jbl jbn jba jaa x1 jdD jaR jbs jbt jbo jbp jbk jbj jbe jbq jbE jbm jbi jcd jaT jbb jbr jaR jb6 jbb cyI jbQ jb6 jbW jbL jck jcc jdh jcc cyI jfl jck cyI jfK jbW cyI jdN jbL cyI jdi jbs cyI jci jbt cyI jcj)) hP hD [0, 1] [2, 3, 4, 5, 6, 7, 8, 9, 10] [9, 10, 0, 1, 2, 3, 4, 5, 6, 7, 8] hCc rfl (by decide +kernel) (by decide +kernel) (by decide +kernel) rfl hk1 hFc hP1 hD1
    generalize H1 = H at hP hS hc9 ⊢
    exact vx_out (fun x hx9 => (hXs.1 x hx9).elim) hlocks hc9 hv9 hcl9 (fun t2 ht2 hal2 => ⟨(x1, jfl, jfK), trivial, ⟨hw, by rw [ht2]; exact hP, va_K.moved hal2 hK, hD⟩, hS.F ht2⟩) hS.2.2 (nbq rfl) (nbq rfl)
  obtain ⟨x1, rfl⟩ : ∃ z, z = u := ⟨_, rfl⟩
  obtain ⟨hP1, hK1, hD1⟩ := hB
  rw [ht] at hP1
  obtain ⟨hP, hD⟩ := qad (wr := (qaPv jaT jbb jbr jaR jb6 jbb cyI jbQ jb6 jbW jbL jck jcc jdh jcc cyI jfl jck cyI jfK jbW cyI jdN jbL cyI jdi jbs cyI jci jbt cyI jcj)) (w1 := (qam7 a0 jaK jaR ja1 jcp jbc jbV ja3 jbH jaT jbO jaq jac jbI jbl jbn jba jaa x1 jdD jaR jbs jbt jbo jbp jbk jbj jbe jbq jbE jbm jbi jcd)) (wn := (qAU a0 jaK jaR ja1 jcp jbc jbV ja3 jbH jaT jbO jaq jac jbI jbl jbn jba jaa x1 jdD jaR jbs jbt jbo jbp jbk jbj jbe jbq jbE jbm jbi jcd jaT jbb jbr jaR jb6 jbb cyI jbQ jb6 jbW jbL jck jcc jdh jcc cyI jfl jck cyI jfK jbW cyI jdN jbL cyI jdi jbs cyI jci jbt cyI jcj)) hP hD [0, 1] [2, 3, 4, 5, 6, 7, 8, 9, 10] [9, 10, 0, 1, 2, 3, 4, 5, 6, 7, 8] hCc rfl (by decide +kernel) (by decide +kernel) (by decide +kernel) rfl hk1 hFc hP1 hD1
  generalize H1 = H at hP hS ⊢
  refine lv_aload_n hx hb (qaa ql0 3 rfl) rfl (lv_at hl 0 rfl) ?_
  refine lv_iload_n hx hb (qaa ql0 4 rfl) rfl (lv_at hl 2 rfl) ?_
  obtain ⟨hCc, hPc, hDc, hFc⟩ := qac (ws' := (qam7 a0 jaK jaR ja1 jcp jbc jbV ja3 jbH jaT jbO jaq jac jbI jbl jbn jba jaa x1 jdD jaR jbs jbt jbo jbp jbk jbj jbe jbq jbE jbm jbi jcd)) hP hD hS hA [0, 1] (by decide +kernel) rfl
  refine vx_callv (vx_runV (As := [.int p2]) (rest := []) ⟨hx, hb, hml, hown, hts⟩ (qyK l dC dI cyB cyI cyJ cyP a0 jaR H.size (jaK) (ja1) (jcp) (jbc) (jbV) (ja3) (jbH) (.ref jaT) (jbO) (jaq) (jac) (jbI) (jbl) (jbn) (jba) (jaa) (jdD) (.ref jbs) (.ref jbt) (jbo) (jbp) (jbk) (jbj) (jbe) (jbq) (.int jbm) (jbi) (jcd) jbE x1 p2 hw) (cwV 1 hts gX10_hops_X10_needForm rfl rfl rfl (by decide +kernel) ⟨nbq rfl, nbq rfl⟩) ⟨qau, va_recv (q := (RX10, TX10, 19)) hK hPc (ci := 10) (q0 := 0) rfl rfl, qbk hPc hK hDc hNw hY hS hFc⟩ rfl rfl hl.1 rfl (lv_room (nbq rfl)) (qaa ql0 5 rfl) ⟨nbq rfl, nbq rfl⟩) hS (fun q _ h => hFc q h) hFc (fun q _ h => hFc q h) (fun en ce q9 u t H1 locs ht hvm hpx hB hz1 hk1 hS hc9 hv9 hcl9 => ?_) (fun u t H1 locs ht hvm hw hB hz1 hk1 hS => ?_)
  · obtain ⟨x2, rfl⟩ : ∃ z, z = u := ⟨_, rfl⟩
    obtain ⟨hw, hP1, hK1, hD1⟩ := hB
    rw [ht] at hP1
    obtain ⟨hP, hD⟩ := qad (wr := (qaPv jaT jbb jbr jaR jb6 jbb cyI jbQ jb6 jbW jbL jck jcc jdh jcc cyI jfl jck cyI jfK jbW cyI jdN jbL cyI jdi jbs cyI jci jbt cyI jcj)) (w1 := (qam7 a0 jaK jaR ja1 jcp jbc jbV ja3 jbH jaT jbO jaq jac jbI jbl jbn jba jaa x2 jdD jaR jbs jbt jbo jbp jbk jbj jbe jbq jbE jbm jbi jcd)) (wn := (qAU a0 jaK jaR ja1 jcp jbc jbV ja3 jbH jaT jbO jaq jac jbI jbl jbn jba jaa x2 jdD jaR jbs jbt jbo jbp jbk jbj jbe jbq jbE jbm jbi jcd jaT jbb jbr jaR jb6 jbb cyI jbQ jb6 jbW jbL jck jcc jdh jcc cyI jfl jck cyI jfK jbW cyI jdN jbL cyI jdi jbs cyI jci jbt cyI jcj)) hP hD [0, 1] [2, 3, 4, 5, 6, 7, 8, 9, 10] [9, 10, 0, 1, 2, 3, 4, 5, 6, 7, 8] hCc rfl (by decide +kernel) (by decide +kernel) (by decide +kernel) rfl hk1 hFc hP1 hD1
    generalize H1 = H at hP hS hc9 ⊢
    exact vx_out (fun x hx9 => (hXs.1 x hx9).elim) hlocks hc9 hv9 hcl9 (fun t2 ht2 hal2 => ⟨(x2, jfl, jfK), trivial, ⟨hw, by rw [ht2]; exact hP, va_K.moved hal2 hK, hD⟩, hS.F ht2⟩) hS.2.2 (nbq rfl) (nbq rfl)
  obtain ⟨x2, rfl⟩ : ∃ z, z = u := ⟨_, rfl⟩
  obtain ⟨hP1, hK1, hD1⟩ := hB
  rw [ht] at hP1
  obtain ⟨hP, hD⟩ := qad (wr := (qaPv jaT jbb jbr jaR jb6 jbb cyI jbQ jb6 jbW jbL jck jcc jdh jcc cyI jfl jck cyI jfK jbW cyI jdN jbL cyI jdi jbs cyI jci jbt cyI jcj)) (w1 := (qam7 a0 jaK jaR ja1 jcp jbc jbV ja3 jbH jaT jbO jaq jac jbI jbl jbn jba jaa x2 jdD jaR jbs jbt jbo jbp jbk jbj jbe jbq jbE jbm jbi jcd)) (wn := (qAU a0 jaK jaR ja1 jcp jbc jbV ja3 jbH jaT jbO jaq jac jbI jbl jbn jba jaa x2 jdD jaR jbs jbt jbo jbp jbk jbj jbe jbq jbE jbm jbi jcd jaT jbb jbr jaR jb6 jbb cyI jbQ jb6 jbW jbL jck jcc jdh jcc cyI jfl jck cyI jfK jbW cyI jdN jbL cyI jdi jbs cyI jci jbt cyI jcj)) hP hD [0, 1] [2, 3, 4, 5, 6, 7, 8, 9, 10] [9, 10, 0, 1, 2, 3, 4, 5, 6, 7, 8] hCc rfl (by decide +kernel) (by decide +kernel) (by decide +kernel) rfl hk1 hFc hP1 hD1
  generalize H1 = H at hP hS ⊢
  refine lv_aload_n hx hb (qaa ql0 6 rfl) rfl (lv_at hl 0 rfl) ?_
  refine va_get (D := (dC, dI)) (ci := 10) (v := .ref jaT) (C := RX10) (T := TX10) (N := 19) hx hb hts qH1 hown hK hP 0 rfl rfl 8 (by decide) (hts _ qPX) (fun _ h9 => h9) rfl (qaa ql0 7 rfl) ?_
  refine lv_iload_n hx hb (qaa ql0 8 rfl) rfl (lv_at hl 1 rfl) ?_
  obtain ⟨hCc, hPc, hDc, hFc⟩ := qac (ws' := (qDj jaT jbb jbr jaR jb6 jbb cyI jbQ)) hP hD hS hA [2, 3] (by decide +kernel) rfl
  refine va_calli (va_runV (As := [.int p1]) (rest := []) ⟨hx, hb, hml, hown, hts⟩ (qh8 l dC dI cyB cyI cyJ cyP jaT jbb H.size (jbr) (.ref jaR) (.ref jb6) jbQ p1 hw) (cwV 1 hts gX10_hops_X1_isCaught rfl rfl rfl (by decide +kernel) ⟨nbq rfl, nbq rfl⟩) ⟨qab, va_recv (q := (RX1, TX1, 4)) hK hPc (ci := 1) (q0 := 0) rfl rfl, qae hPc hK hDc hNw⟩ rfl rfl hl.1 rfl (lv_room (nbq rfl)) (qaa ql0 9 rfl) ⟨nbq rfl, nbq rfl⟩) hS (fun q _ h => hFc q h) hFc (fun r3 u t H1 locs ht hvm hw hB hz1 hk1 hS => ?_)
  obtain ⟨hP1, hK1, hD1⟩ := hB
  rw [ht] at hP1
  obtain ⟨hP, hD⟩ := qad (wr := (qa6g a0 jaK jaR ja1 jcp jbc jbV ja3 jbH jaT jbO jaq jac jbI jbl jbn jba jaa x2 jdD jaR jbs jbt jbo jbp jbk jbj jbe jbq jbE jbm jbi jcd jb6 jbW jbL jck jcc jdh jcc cyI jfl jck cyI jfK jbW cyI jdN jbL cyI jdi jbs cyI jci jbt cyI jcj)) (w1 := (qDj jaT jbb jbr jaR jb6 jbb cyI jbQ)) (wn := (qAU a0 jaK jaR ja1 jcp jbc jbV ja3 jbH jaT jbO jaq jac jbI jbl jbn jba jaa x2 jdD jaR jbs jbt jbo jbp jbk jbj jbe jbq jbE jbm jbi jcd jaT jbb jbr jaR jb6 jbb cyI jbQ jb6 jbW jbL jck jcc jdh jcc cyI jfl jck cyI jfK jbW cyI jdN jbL cyI jdi jbs cyI jci jbt cyI jcj)) hP hD [2, 3] [0, 1, 4, 5, 6, 7, 8, 9, 10] [0, 1, 9, 10, 2, 3, 4, 5, 6, 7, 8] hCc rfl (by decide +kernel) (by decide +kernel) (by decide +kernel) rfl hk1 hFc hP1 hD1
  generalize H1 = H at hP hS ⊢
  refine lv_if_eq (tgt := 23) hx hb (qaa ql0 10 rfl) (by decide) (fun c4 => ?_) (fun c4 => ?_)
  · have hw := hw.1 c4
    refine lv_aload_n hx hb (qaa ql0 13 rfl) rfl (lv_at hl 0 rfl) ?_
    refine va_get (D := (dC, dI)) (ci := 10) (v := .ref jaR) (C := RX10) (T := TX10) (N := 19) hx hb hts qH1 hown hK hP 0 rfl rfl 1 (by decide) (hts _ qavj) (fun _ h9 => h9) rfl (qaa ql0 14 rfl) ?_
    refine lv_aload_n hx hb (qaa ql0 15 rfl) rfl (lv_at hl 0 rfl) ?_
    refine va_get (D := (dC, dI)) (ci := 10) (v := .ref jaT) (C := RX10) (T := TX10) (N := 19) hx hb hts qH1 hown hK hP 0 rfl rfl 8 (by decide) (hts _ qPX) (fun _ h9 => h9) rfl (qaa qrN 0 rfl) ?_
    refine lv_iload_n hx hb (qaa qrN 1 rfl) rfl (lv_at hl 1 rfl) ?_
    obtain ⟨hCc, hPc, hDc, hFc⟩ := qac (ws' := (qDj jaT jbb jbr jaR jb6 jbb cyI jbQ)) hP hD hS hA [2, 3] (by decide +kernel) rfl
    refine va_calli (va_runV (As := [.int p1]) (rest := [.ref jaR]) ⟨hx, hb, hml, hown, hts⟩ (qvC l dC dI cyB cyI cyJ cyP jaT jbb H.size (jbr) (.ref jaR) (.ref jb6) jbQ p1 hw) (cwV 1 hts gX10_hops_X1_sits rfl rfl rfl (by decide +kernel) ⟨nbq rfl, nbq rfl⟩) ⟨qab, va_recv (q := (RX1, TX1, 4)) hK hPc (ci := 1) (q0 := 0) rfl rfl, qae hPc hK hDc hNw⟩ rfl rfl hl.1 rfl (lv_room (nbq rfl)) (qaa qrN 2 rfl) ⟨nbq rfl, nbq rfl⟩) hS (fun q _ h => hFc q h) hFc (fun r5 u t H1 locs ht hvm hw hB hz1 hk1 hS => ?_)
    obtain ⟨hP1, hK1, hD1⟩ := hB
    rw [ht] at hP1
    obtain ⟨hP, hD⟩ := qad (wr := (qa6g a0 jaK jaR ja1 jcp jbc jbV ja3 jbH jaT jbO jaq jac jbI jbl jbn jba jaa x2 jdD jaR jbs jbt jbo jbp jbk jbj jbe jbq jbE jbm jbi jcd jb6 jbW jbL jck jcc jdh jcc cyI jfl jck cyI jfK jbW cyI jdN jbL cyI jdi jbs cyI jci jbt cyI jcj)) (w1 := (qDj jaT jbb jbr jaR jb6 jbb cyI jbQ)) (wn := (qAU a0 jaK jaR ja1 jcp jbc jbV ja3 jbH jaT jbO jaq jac jbI jbl jbn jba jaa x2 jdD jaR jbs jbt jbo jbp jbk jbj jbe jbq jbE jbm jbi jcd jaT jbb jbr jaR jb6 jbb cyI jbQ jb6 jbW jbL jck jcc jdh jcc cyI jfl jck cyI jfK jbW cyI jdN jbL cyI jdi jbs cyI jci jbt cyI jcj)) hP hD [2, 3] [0, 1, 4, 5, 6, 7, 8, 9, 10] [0, 1, 9, 10, 2, 3, 4, 5, 6, 7, 8] hCc rfl (by decide +kernel) (by decide +kernel) (by decide +kernel) rfl hk1 hFc hP1 hD1
    generalize H1 = H at hP hS ⊢
    refine lv_iload_n hx hb (qaa qrN 3 rfl) rfl (lv_at hl 2 rfl) ?_
    refine lv_aload_n hx hb (qaa qrN 4 rfl) rfl (lv_at hl 0 rfl) ?_
    refine va_get (D := (dC, dI)) (ci := 10) (v := .ref jaT) (C := RX10) (T := TX10) (N := 19) hx hb hts qH1 hown hK hP 0 rfl rfl 8 (by decide) (hts _ qPX) (fun _ h9 => h9) rfl (qaa qrN 5 rfl) ?_
    refine lv_iload_n hx hb (qaa qrN 6 rfl) rfl (lv_at hl 1 rfl) ?_
    obtain ⟨hCc, hPc, hDc, hFc⟩ := qac (ws' := (qa4K jaT jbb jbr jaR jb6 jbb cyI jbQ jaR jbs jbt jbo jbp jbk jbj jbe jbq jbE jbm jbi jcd jb6 jbW jbL jck jcc jdh jcc cyI jfl jck cyI jfK jbW cyI jdN jbL cyI jdi)) hP hD hS hA [2, 3, 1, 4, 5, 6, 7, 8] (by decide +kernel) rfl
    refine va_calli (va_runV (As := [.int p1]) (rest := [.int p2, .int r5, .ref jaR]) ⟨hx, hb, hml, hown, hts⟩ (qXl l dC dI cyB cyI cyJ cyP jaT jbb jaR jb6 jcc jck jbW jbL H.size (jbr) (.ref jbs) (.ref jbt) (jbo) (jbp) (jbk) (jbj) (jbe) (jbq) (.int jbE) (jbi) (jcd) jbQ jbm jdh jdN jdi jfl jfK p1 hw) (cwV 1 hts gX10_hops_X1_reach rfl rfl rfl (by decide +kernel) ⟨nbq rfl, nbq rfl⟩) ⟨qab, va_recv (q := (RX1, TX1, 4)) hK hPc (ci := 1) (q0 := 0) rfl rfl, qae hPc hK hDc hNw⟩ rfl rfl hl.1 rfl (lv_room (nbq rfl)) (qaa qrN 7 rfl) ⟨nbq rfl, nbq rfl⟩) hS (fun q _ h => hFc q h) hFc (fun r8 u t H1 locs ht hvm hw hB hz1 hk1 hS => ?_)
    obtain ⟨f6, f7⟩ := u
    obtain ⟨hP1, hK1, hD1⟩ := hB
    rw [ht] at hP1
    obtain ⟨hP, hD⟩ := qad (wr := [(a0, .inr (10, [jaK, .ref jaR, ja1, jcp, jbc, jbV, ja3, jbH, .ref jaT, jbO, jaq, jac, jbI, jbl, jbn, jba, jaa, .int x2, jdD])), (jbs, .inl (cyI, 8, .inl jci)), (jbt, .inl (cyI, 8, .inl jcj))]) (w1 := (qa4K jaT jbb jbr jaR jb6 jbb cyI jbQ jaR jbs jbt jbo jbp jbk jbj jbe jbq jbE jbm jbi jcd jb6 jbW jbL jck jcc jdh jcc cyI f6 jck cyI f7 jbW cyI jdN jbL cyI jdi)) (wn := (qAU a0 jaK jaR ja1 jcp jbc jbV ja3 jbH jaT jbO jaq jac jbI jbl jbn jba jaa x2 jdD jaR jbs jbt jbo jbp jbk jbj jbe jbq jbE jbm jbi jcd jaT jbb jbr jaR jb6 jbb cyI jbQ jb6 jbW jbL jck jcc jdh jcc cyI f6 jck cyI f7 jbW cyI jdN jbL cyI jdi jbs cyI jci jbt cyI jcj)) hP hD [2, 3, 1, 4, 5, 6, 7, 8] [0, 9, 10] [0, 5, 3, 4, 6, 7, 8, 9, 10, 1, 2] hCc rfl (by decide +kernel) (by decide +kernel) (by decide +kernel) rfl hk1 hFc hP1 hD1
    generalize H1 = H at hP hS ⊢
    obtain ⟨hCc, hPc, hDc, hFc⟩ := qac (ws' := (qa8b jaR jbs jbt jbo jbp jbk jbj jbe jbq jbE jbm jbi jcd jbs cyI jci jbt cyI jcj)) hP hD hS hA [1, 9, 10] (by decide +kernel) rfl
    refine va_calli (va_runV (As := [.int r5, .int p2, .int r8]) (rest := []) ⟨hx, hb, hml, hown, hts⟩ (qamS l dC dI cyB cyI cyJ cyP jaR jbs jbt H.size (jbo) (jbp) (jbk) (jbj) (jbe) (jbq) (.int jbm) (jbi) (jcd) jbE jci jcj r5 p2 r8 hw) (cwV 3 hts gX10_hops_X2_hopsBetween rfl rfl rfl (by decide +kernel) ⟨nbq rfl, nbq rfl⟩) ⟨qab, va_recv (q := (RX2, TX2, 12)) hK hPc (ci := 2) (q0 := 0) rfl rfl, qae hPc hK hDc hNw⟩ rfl rfl hl.1 rfl (lv_room (nbq rfl)) (qaa qrN 8 rfl) ⟨nbq rfl, nbq rfl⟩) hS (fun q _ h => hFc q h) hFc (fun r9 u t H1 locs ht hvm hw hB hz1 hk1 hS => ?_)
    obtain ⟨hP1, hK1, hD1⟩ := hB
    rw [ht] at hP1
    obtain ⟨hP, hD⟩ := qad (wr := [(a0, .inr (10, [jaK, .ref jaR, ja1, jcp, jbc, jbV, ja3, jbH, .ref jaT, jbO, jaq, jac, jbI, jbl, jbn, jba, jaa, .int x2, jdD])), (jaT, .inr (1, [.ref jbb, jbr, .ref jaR, .ref jb6])), (jbb, .inl (cyI, 64, .inl jbQ)), (jb6, .inr (4, [.ref jbW, .ref jbL, .ref jck, .ref jcc, .int jdh])), (jcc, .inl (cyI, 8, .inl f6)), (jck, .inl (cyI, 150, .inl f7)), (jbW, .inl (cyI, 150, .inl jdN)), (jbL, .inl (cyI, 150, .inl jdi))]) (w1 := (qa8b jaR jbs jbt jbo jbp jbk jbj jbe jbq jbE jbm jbi jcd jbs cyI jci jbt cyI jcj)) (wn := (qAU a0 jaK jaR ja1 jcp jbc jbV ja3 jbH jaT jbO jaq jac jbI jbl jbn jba jaa x2 jdD jaR jbs jbt jbo jbp jbk jbj jbe jbq jbE jbm jbi jcd jaT jbb jbr jaR jb6 jbb cyI jbQ jb6 jbW jbL jck jcc jdh jcc cyI f6 jck cyI f7 jbW cyI jdN jbL cyI jdi jbs cyI jci jbt cyI jcj)) hP hD [1, 9, 10] [0, 2, 3, 4, 5, 6, 7, 8] [0, 8, 1, 2, 3, 4, 5, 6, 7, 9, 10] hCc rfl (by decide +kernel) (by decide +kernel) (by decide +kernel) rfl hk1 hFc hP1 hD1
    generalize H1 = H at hP hS ⊢
    exact vx_ret (W.widen (k := 2) (n := 12) (nbq rfl) (nbq rfl) (W.iret (v := r9) hx hb hr (fun t ht hW => ⟨⟨r9, (x2, f6, f7), rfl, hw, by rw [ht]; exact hP, va_K.moved hW.alike hK, hD⟩, hS.F ht⟩) hS.2.2 (qaa qrN 9 rfl)))
  · have hw := hw.2 c4
    refine lv_iconst (v := (-1)) hx hb (qaa ql0 11 rfl) (by decide) ?_
    exact vx_ret (W.widen (k := 2) (n := 12) (nbq rfl) (nbq rfl) (W.iret (v := (-1)) hx hb hr (fun t ht hW => ⟨⟨(-1), (x2, jfl, jfK), rfl, hw, by rw [ht]; exact hP, va_K.moved hW.alike hK, hD⟩, hS.F ht⟩) hS.2.2 (qaa ql0 12 rfl)))
theorem qaJJ : (.classLink RL 31 "java/util/NoSuchElementException" : Cond) ∈ wsL_hops := qauT 2639 (by decide +kernel)
theorem qaVZ : (.codeWith yL_hops cL_hops 5 (some .int) [(0, 10, 13, 31)] : Cond) ∈ wsL_hops := qauT 3012 (by decide +kernel)
set_option maxHeartbeats 4000000 in
set_option maxRecDepth 100000 in
theorem qa7m (l : Launch) (dC : Nat → ClassId) (dI : Nat → Nat → Nat) (cyB cyI cyJ cyP : ClassId) (a0 a3 jaR jaT jbb jb6 jcc jck jbW jbL jbs jbt sz : Nat) (jaK ja1 jbc jbV ja3 jbH jbO jaq jac jbI jbl jbn jba jaa jdD jbo jbp jbk jbj jbe jbq jbi jcd jbr : Value) (n3 : Nat) (jbE jbm : Int32) (jbQ : NI) (jdh : Int32) (jdN jdi jci jcj : NI) (jdu : Int32) (jfl jfK : NI) (f3 : Nat → Int64) (p1 p2 : Int32) {Q : Int32 → Int32 → NI → NI → (Nat → Int64) → Prop} (hw : qaS1 n3 jbE jbm jbQ jdh jdN jdi jci jcj jdu jfl jfK f3 p1 p2 Q) : Met l yL_hops wsL_hops ({ frames := 8, cells := 2, slots := 12, locals := 163 }) (va_Pc [.ref a0, .int p1, .int p2, .ref a3] (cPx l (dC, dI) (kT cyB cyI cyJ cyP) (qNh a0 jaK jaR ja1 jb6 jbc jbV ja3 jbH jaT jbO jaq jac jbI jbl jbn jba jaa jdu jdD jaR jbs jbt jbo jbp jbk jbj jbe jbq jbE jbm jbi jcd jaT jbb jbr jaR jb6 jbb cyI jbQ jb6 jbW jbL jck jcc jdh jcc cyI jfl jck cyI jfK jbW cyI jdN jbL cyI jdi jbs cyI jci jbt cyI jcj a3 cyJ n3 f3) sz)) (va_Qi (fun (r : Int32) (u : Int32 × NI × NI × (Nat → Int64)) => Q r u.1 u.2.1 u.2.2.1 u.2.2.2) (cB (dC, dI) (kT cyB cyI cyJ cyP) (va_A (qNh a0 jaK jaR ja1 jb6 jbc jbV ja3 jbH jaT jbO jaq jac jbI jbl jbn jba jaa jdu jdD jaR jbs jbt jbo jbp jbk jbj jbe jbq jbE jbm jbi jcd jaT jbb jbr jaR jb6 jbb cyI jbQ jb6 jbW jbL jck jcc jdh jcc cyI jfl jck cyI jfK jbW cyI jdN jbL cyI jdi jbs cyI jci jbt cyI jcj a3 cyJ n3 f3) sz) (fun u : Int32 × NI × NI × (Nat → Int64) => ((qNh a0 jaK jaR ja1 jb6 jbc jbV ja3 jbH jaT jbO jaq jac jbI jbl jbn jba jaa u.1 jdD jaR jbs jbt jbo jbp jbk jbj jbe jbq jbE jbm jbi jcd jaT jbb jbr jaR jb6 jbb cyI jbQ jb6 jbW jbL jck jcc jdh jcc cyI u.2.1 jck cyI u.2.2.1 jbW cyI jdN jbL cyI jdi jbs cyI jci jbt cyI jcj a3 cyJ n3 u.2.2.2) : va_W))) (va_A (qNh a0 jaK jaR ja1 jb6 jbc jbV ja3 jbH jaT jbO jaq jac jbI jbl jbn jba jaa jdu jdD jaR jbs jbt jbo jbp jbk jbj jbe jbq jbE jbm jbi jcd jaT jbb jbr jaR jb6 jbb cyI jbQ jb6 jbW jbL jck jcc jdh jcc cyI jfl jck cyI jfK jbW cyI jdN jbL cyI jdi jbs cyI jci jbt cyI jcj a3 cyJ n3 f3) sz)) 2 12 (va_A (qNh a0 jaK jaR ja1 jb6 jbc jbV ja3 jbH jaT jbO jaq jac jbI jbl jbn jba jaa jdu jdD jaR jbs jbt jbo jbp jbk jbj jbe jbq jbE jbm jbi jcd jaT jbb jbr jaR jb6 jbb cyI jbQ jb6 jbW jbL jck jcc jdh jcc cyI jfl jck cyI jfK jbW cyI jdN jbL cyI jdi jbs cyI jci jbt cyI jcj a3 cyJ n3 f3) sz) := by
  refine va_MetW (cc := cL_hops) (maxL := 5) (ret := (some .int)) (by decide) rfl ?_
  intro p e s m args below meth c s₁ B hml hv
  obtain ⟨rfl, hsz, hP, hK, hD0, hNw, hXl, hXu, hXn, hXt⟩ := hv
  have hx := B.exec
  have hb := B.bytes
  have hr := B.returns
  have hts := atoms_spec (ws := wsL_hops) B.pre
  have hown : s.vm.findClass RL = some m.cls := findClass_of_methodNamed B.named
  have hlocks := B.notSynchronized
  subst hsz
  have hD := hD0.self (sz := s.heap.size)
  generalize hAe : va_A (qNh a0 jaK jaR ja1 jb6 jbc jbV ja3 jbH jaT jbO jaq jac jbI jbl jbn jba jaa jdu jdD jaR jbs jbt jbo jbp jbk jbj jbe jbq jbE jbm jbi jcd jaT jbb jbr jaR jb6 jbb cyI jbQ jb6 jbW jbL jck jcc jdh jcc cyI jfl jck cyI jfK jbW cyI jdN jbL cyI jdi jbs cyI jci jbt cyI jcj a3 cyJ n3 f3) s.heap.size = A at hD hXu hXn ⊢
  have hA : ∀ q : Nat, s.heap.size ≤ q → A q := fun q h => by rw [← hAe]; exact Or.inr h
  have hS : va_S A s.heap s.heap [] := va_S.rf
  have hP : va_P (dC, dI) vwCl (qNh a0 jaK jaR ja1 jb6 jbc jbV ja3 jbH jaT jbO jaq jac jbI jbl jbn jba jaa jdu jdD jaR jbs jbt jbo jbp jbk jbj jbe jbq jbE jbm jbi jcd jaT jbb jbr jaR jb6 jbb cyI jbQ jb6 jbW jbL jck jcc jdh jcc cyI jfl jck cyI jfK jbW cyI jdN jbL cyI jdi jbs cyI jci jbt cyI jcj a3 cyJ n3 f3) s.heap := hP
  have hl := lv_entry ([.ref a0, .int p1, .int p2, .ref a3]) (n := 5) (nbq rfl)
  rw [lg_entry_eq]
  generalize (lg_sl ([.ref a0, .int p1, .int p2, .ref a3]) ++ List.replicate (5 - (lg_sl ([.ref a0, .int p1, .int p2, .ref a3])).length) Slot.unset).toArray = ls at hl ⊢
  have hl : lv_has ls 5 [(0, .ref a0), (1, .int p1), (2, .int p2), (3, .ref a3)] := hl
  have hY : cfY l s A := ⟨hXl, hXu, hXn, hXt⟩
  have hTb := vx_table (x := yL_hops) B (hts _ qaVZ)
  clear hAe
  obtain ⟨H, hH⟩ : ∃ H, H = s.heap := ⟨_, rfl⟩
  rw [← hH] at hP ⊢
  have hS : va_S A s.heap H [] := by rw [hH]; exact va_S.rf
  have hS := hS
  refine lv_aload_n hx hb (qaa qr8 0 rfl) rfl (lv_at hl 3 rfl) ?_
  refine lv_iconst (v := 0) hx hb (qaa qr8 1 rfl) (by decide) ?_
  refine lv_aload_n hx hb (qaa qr8 2 rfl) rfl (lv_at hl 0 rfl) ?_
  refine lv_iload_n hx hb (qaa qr8 3 rfl) rfl (lv_at hl 1 rfl) ?_
  refine lv_iload_n hx hb (qaa qr8 4 rfl) rfl (lv_at hl 2 rfl) ?_
  obtain ⟨hCc, hPc, hDc, hFc⟩ := qac (ws' := (qaYu a0 jaK jaR ja1 jb6 jbc jbV ja3 jbH jaT jbO jaq jac jbI jbl jbn jba jaa jdu jdD jaR jbs jbt jbo jbp jbk jbj jbe jbq jbE jbm jbi jcd jaT jbb jbr jaR jb6 jbb cyI jbQ jb6 jbW jbL jck jcc jdh jcc cyI jfl jck cyI jfK jbW cyI jdN jbL cyI jdi jbs cyI jci jbt cyI jcj)) hP hD hS hA [0, 1, 2, 3, 4, 5, 6, 7, 8, 9, 10] (by decide +kernel) rfl
  refine vx_calli (vx_runV (As := [.int p1, .int p2]) (rest := [.int 0, .ref a3]) ⟨hx, hb, hml, hown, hts⟩ (qaYD l dC dI cyB cyI cyJ cyP a0 jaR jaT jbb jb6 jcc jck jbW jbL jbs jbt H.size (jaK) (ja1) (.ref jb6) (jbc) (jbV) (ja3) (jbH) (jbO) (jaq) (jac) (jbI) (jbl) (jbn) (jba) (jaa) (jdD) (jbo) (jbp) (jbk) (jbj) (jbe) (jbq) (jbi) (jcd) (jbr) jbE jbm jbQ jdh jdN jdi jci jcj jdu jfl jfK p1 p2 hw) (cwV 2 hts gL_hops_X10_hops rfl rfl rfl (by decide +kernel) ⟨nbq rfl, nbq rfl⟩) ⟨qau, va_recv (q := (RX10, TX10, 19)) hK hPc (ci := 10) (q0 := 0) rfl rfl, qbk hPc hK hDc hNw hY hS hFc⟩ rfl rfl hl.1 rfl (lv_room (nbq rfl)) (qaa qr8 5 rfl) ⟨nbq rfl, nbq rfl⟩) hS (fun q _ h => hFc q h) hFc (fun q _ h => hFc q h) (fun en ce qx9 u t H1 locs ht hvm hpx hB hz1 hk1 hS hc9 hv9 hcl9 => ?_) (fun r5 u t H1 locs ht hvm hw hB hz1 hk1 hS => ?_)
  · obtain ⟨x1, f2, f4⟩ := u
    obtain ⟨hw, hP1, hK1, hD1⟩ := hB
    rw [ht] at hP1
    obtain ⟨hP, hD⟩ := qad (wr := [(a3, .inl (cyJ, n3, .inr (.inl f3)))]) (w1 := (qaYu a0 jaK jaR ja1 jb6 jbc jbV ja3 jbH jaT jbO jaq jac jbI jbl jbn jba jaa x1 jdD jaR jbs jbt jbo jbp jbk jbj jbe jbq jbE jbm jbi jcd jaT jbb jbr jaR jb6 jbb cyI jbQ jb6 jbW jbL jck jcc jdh jcc cyI f2 jck cyI f4 jbW cyI jdN jbL cyI jdi jbs cyI jci jbt cyI jcj)) (wn := (qNh a0 jaK jaR ja1 jb6 jbc jbV ja3 jbH jaT jbO jaq jac jbI jbl jbn jba jaa x1 jdD jaR jbs jbt jbo jbp jbk jbj jbe jbq jbE jbm jbi jcd jaT jbb jbr jaR jb6 jbb cyI jbQ jb6 jbW jbL jck jcc jdh jcc cyI f2 jck cyI f4 jbW cyI jdN jbL cyI jdi jbs cyI jci jbt cyI jcj a3 cyJ n3 f3)) hP hD [0, 1, 2, 3, 4, 5, 6, 7, 8, 9, 10] [11] [1, 2, 3, 4, 5, 6, 7, 8, 9, 10, 11, 0] hCc rfl (by decide +kernel) (by decide +kernel) (by decide +kernel) rfl hk1 hFc hP1 hD1
    generalize H1 = H at hP hS hc9 ⊢
    obtain ⟨rfl, hw⟩ := hw
    refine vx_catch (own := RL) (name := "java/util/NoSuchElementException") hown [] ⟨0, 10, 13, 31⟩ [] (hTb.trans rfl) (fun z hz => nomatch hz) (by decide) (by decide) (hts _ qaJJ) (va_Nw.use rfl (hY.2.2.2.1.2 _ (List.mem_of_getElem? (i := 1) rfl))) hc9 hv9 hcl9 ?_
    refine lv_astore (lv' := [(4, .ref qx9), (0, .ref a0), (1, .int p1), (2, .int p2), (3, .ref a3)]) hx hb (qaa qr8 9 rfl) hl (by decide) rfl (fun ls hl => ?_)
    refine lv_iconst (v := 1) hx hb (qaa qr8 10 rfl) (by decide) ?_
    exact (W.widen (k := 2) (n := 12) (nbq rfl) (nbq rfl) (W.iret (v := 1) hx hb hr (fun t ht hW => ⟨⟨1, (x1, f2, f4, f3), rfl, hw, by rw [ht]; exact hP, va_K.moved hW.alike hK, hD⟩, hS.F ht⟩) hS.2.2 (qaa qr8 11 rfl)))
  obtain ⟨x1, f2, f4⟩ := u
  obtain ⟨hP1, hK1, hD1⟩ := hB
  rw [ht] at hP1
  obtain ⟨hP, hD⟩ := va_join (wr := [(a3, .inl (cyJ, n3, .inr (.inl f3)))]) (w1 := (qaYu a0 jaK jaR ja1 jb6 jbc jbV ja3 jbH jaT jbO jaq jac jbI jbl jbn jba jaa x1 jdD jaR jbs jbt jbo jbp jbk jbj jbe jbq jbE jbm jbi jcd jaT jbb jbr jaR jb6 jbb cyI jbQ jb6 jbW jbL jck jcc jdh jcc cyI f2 jck cyI f4 jbW cyI jdN jbL cyI jdi jbs cyI jci jbt cyI jcj)) hP hD [0, 1, 2, 3, 4, 5, 6, 7, 8, 9, 10] [11] rfl rfl (by decide) (by decide) hk1 hFc hP1 hD1
  have hP : va_P (dC, dI) vwCl (qNh a0 jaK jaR ja1 jb6 jbc jbV ja3 jbH jaT jbO jaq jac jbI jbl jbn jba jaa x1 jdD jaR jbs jbt jbo jbp jbk jbj jbe jbq jbE jbm jbi jcd jaT jbb jbr jaR jb6 jbb cyI jbQ jb6 jbW jbL jck jcc jdh jcc cyI f2 jck cyI f4 jbW cyI jdN jbL cyI jdi jbs cyI jci jbt cyI jcj a3 cyJ n3 f3) H1 := hP.sub [1, 2, 3, 4, 5, 6, 7, 8, 9, 10, 11, 0] rfl
  have hD : va_D A (qNh a0 jaK jaR ja1 jb6 jbc jbV ja3 jbH jaT jbO jaq jac jbI jbl jbn jba jaa x1 jdD jaR jbs jbt jbo jbp jbk jbj jbe jbq jbE jbm jbi jcd jaT jbb jbr jaR jb6 jbb cyI jbQ jb6 jbW jbL jck jcc jdh jcc cyI f2 jck cyI f4 jbW cyI jdN jbL cyI jdi jbs cyI jci jbt cyI jcj a3 cyJ n3 f3) := hD.sub [1, 2, 3, 4, 5, 6, 7, 8, 9, 10, 11, 0] (by decide) rfl
  generalize H1 = H at hP hS ⊢
  refine lv_i2l (v := r5.toInt64) hx hb (qaa qr8 6 rfl) rfl ?_
  refine lv_topl (fun x6 ex6 => ?_)
  have hw := hw x6 ex6
  obtain ⟨hi9, hw⟩ := hw
  refine va_last hx hb hK hP hD hS 11 2 rfl rfl hi9 (qaa qr8 7 rfl) (fun H locs hP hD hS => ?_)
  obtain ⟨f7, ef7⟩ : ∃ y : Nat → Int64, y = vp_updL f3 (0 : Int32).toNatClampNeg x6 := ⟨_, rfl⟩
  have hw := hw f7 ef7
  have hP : va_P (dC, dI) vwCl (qNh a0 jaK jaR ja1 jb6 jbc jbV ja3 jbH jaT jbO jaq jac jbI jbl jbn jba jaa x1 jdD jaR jbs jbt jbo jbp jbk jbj jbe jbq jbE jbm jbi jcd jaT jbb jbr jaR jb6 jbb cyI jbQ jb6 jbW jbL jck jcc jdh jcc cyI f2 jck cyI f4 jbW cyI jdN jbL cyI jdi jbs cyI jci jbt cyI jcj a3 cyJ n3 f7) H := by rw [ef7]; exact hP
  have hD : va_D A (qNh a0 jaK jaR ja1 jb6 jbc jbV ja3 jbH jaT jbO jaq jac jbI jbl jbn jba jaa x1 jdD jaR jbs jbt jbo jbp jbk jbj jbe jbq jbE jbm jbi jcd jaT jbb jbr jaR jb6 jbb cyI jbQ jb6 jbW jbL jck jcc jdh jcc cyI f2 jck cyI f4 jbW cyI jdN jbL cyI jdi jbs cyI jci jbt cyI jcj a3 cyJ n3 f7) := by rw [ef7]; exact hD
  refine lv_goto (tgt := 17) hx hb (qaa qr8 8 rfl) (by decide) ?_
  refine lv_iconst (v := 0) hx hb (qaa qr8 12 rfl) (by decide) ?_
  exact (W.widen (k := 2) (n := 12) (nbq rfl) (nbq rfl) (W.iret (v := 0) hx hb hr (fun t ht hW => ⟨⟨0, (x1, f2, f4, f7), rfl, hw, by rw [ht]; exact hP, va_K.moved hW.alike hK, hD⟩, hS.F ht⟩) hS.2.2 (qaa qr8 13 rfl)))
theorem qacz : ∀ w ∈ u_ws RX8 TX8 7, w ∈ wsX8_seesDigit := uiM qAC euX8 (by decide +kernel)
theorem q9c : (.fieldLink RX8 31 "MarchHares$Tape" "at" "I" : Cond) ∈ wsX8_seesDigit := qAC 713 (by decide +kernel)
set_option maxHeartbeats 4000000 in
set_option maxRecDepth 100000 in
theorem q4a (l : Launch) (dC : Nat → ClassId) (dI : Nat → Nat → Nat) (cyB cyI cyJ cyP : ClassId) (a0 jif sz : Nat) (jl9 jjY jmS jkr : Value) (jb7 : Int32) (jjA : NI) (jcP : Int32) {Q : Int32 → Int32 → Prop} (hw : qHu jb7 jjA jcP Q) : Met l yX8_seesDigit wsX8_seesDigit ({ frames := 1, cells := 0, slots := 0, locals := 21 }) (va_Pc [.ref a0] (cPc (dC, dI) (kT cyB cyI cyJ cyP) (qJF a0 jif jb7 jcP jl9 jjY jmS jkr jif cyB jjA) sz)) (va_Qi (fun (r u : Int32) => Q r u) (cB (dC, dI) (kT cyB cyI cyJ cyP) (va_A (qJF a0 jif jb7 jcP jl9 jjY jmS jkr jif cyB jjA) sz) (fun u : Int32 => ((qJF a0 jif jb7 u jl9 jjY jmS jkr jif cyB jjA) : va_W))) (va_A (qJF a0 jif jb7 jcP jl9 jjY jmS jkr jif cyB jjA) sz)) 0 0 (va_A (qJF a0 jif jb7 jcP jl9 jjY jmS jkr jif cyB jjA) sz) := by
  refine Met.ofW (cc := cX8_seesDigit) (maxL := 1) (ret := (some .boolean)) (by decide) rfl ?_
  intro p e s m args below meth c s₁ B hml hv
  obtain ⟨rfl, hsz, hP, hK, hD0, hNw⟩ := hv
  have hx := B.exec
  have hb := B.bytes
  have hr := B.returns
  have hts := atoms_spec (ws := wsX8_seesDigit) B.pre
  have hown : s.vm.findClass RX8 = some m.cls := findClass_of_methodNamed B.named
  have hlocks := B.notSynchronized
  subst hsz
  have hD := hD0.self (sz := s.heap.size)
  generalize hAe : va_A (qJF a0 jif jb7 jcP jl9 jjY jmS jkr jif cyB jjA) s.heap.size = A at hD ⊢
  have hA : ∀ q : Nat, s.heap.size ≤ q → A q := fun q h => by rw [← hAe]; exact Or.inr h
  have hS : va_S A s.heap s.heap [] := va_S.rf
  have hP : va_P (dC, dI) vwCl (qJF a0 jif jb7 jcP jl9 jjY jmS jkr jif cyB jjA) s.heap := hP
  have hl := lv_entry ([.ref a0]) (n := 1) (nbq rfl)
  rw [lg_entry_eq]
  generalize (lg_sl ([.ref a0]) ++ List.replicate (1 - (lg_sl ([.ref a0])).length) Slot.unset).toArray = ls at hl ⊢
  have hl : lv_has ls 1 [(0, .ref a0)] := hl
  have C0 : cfx p s m _ meth c cX8_seesDigit (some .boolean) wsX8_seesDigit RX8 1 A (dC, dI) (kT cyB cyI cyJ cyP) := ⟨hx, hb, hr, hts, hown, hlocks, hml, hA, hK, hNw⟩
  clear hAe
  obtain ⟨H, hH⟩ : ∃ H, H = s.heap := ⟨_, rfl⟩
  rw [← hH] at hP ⊢
  have hS : va_S A s.heap H [] := by rw [hH]; exact va_S.rf
  have hS := hS
  refine lv_aload_n hx hb (qaa qkI 0 rfl) rfl (lv_at hl 0 rfl) ?_
  obtain ⟨hCc, hPc, hDc, hFc⟩ := qac (ws' := (qJF a0 jif jb7 jcP jl9 jjY jmS jkr jif cyB jjA)) hP hD hS hA [0, 1] (by decide +kernel) rfl
  refine va_callv (va_runV (As := []) (rest := []) ⟨hx, hb, hml, hown, hts⟩ (qwA l dC dI cyB cyI cyJ cyP a0 jif H.size (jl9) (jjY) (jmS) (jkr) jb7 jjA jcP hw) (cwV 0 hts gX8_seesDigit_X8_skipBlanks rfl rfl rfl (by decide +kernel) ⟨nbq rfl, nbq rfl⟩) ⟨qab, va_recv (q := (RX8, TX8, 7)) hK hPc (ci := 8) (q0 := 0) rfl rfl, qae hPc hK hDc hNw⟩ rfl rfl hl.1 rfl (lv_room (nbq rfl)) (qaa qkI 1 rfl) ⟨nbq rfl, nbq rfl⟩) hS (fun q _ h => hFc q h) hFc (fun u t H1 locs ht hvm hw hB hz1 hk1 hS => ?_)
  obtain ⟨x1, rfl⟩ : ∃ z, z = u := ⟨_, rfl⟩
  obtain ⟨hP1, hK1, hD1⟩ := hB
  rw [ht] at hP1
  obtain ⟨hP, hD⟩ := qah (wr := []) (w1 := (qJF a0 jif jb7 x1 jl9 jjY jmS jkr jif cyB jjA)) (wn := (qJF a0 jif jb7 x1 jl9 jjY jmS jkr jif cyB jjA)) hP hD [0, 1] [] hCc rfl (by decide +kernel) (by decide +kernel) rfl hk1 hFc hP1 hD1
  generalize H1 = H at hP hS ⊢
  refine lv_aload_n hx hb (qaa qkI 2 rfl) rfl (lv_at hl 0 rfl) ?_
  refine lv_aload_n hx hb (qaa qkI 3 rfl) rfl (lv_at hl 0 rfl) ?_
  refine va_get (D := (dC, dI)) (ci := 8) (v := .int x1) (C := RX8) (T := TX8) (N := 7) hx hb hts qacz hown hK hP 0 rfl rfl 2 (by decide) (hts _ q9c) (fun _ h9 => h9) rfl (qaa qkI 4 rfl) ?_
  obtain ⟨hCc, hPc, hDc, hFc⟩ := qac (ws' := (qJF a0 jif jb7 x1 jl9 jjY jmS jkr jif cyB jjA)) hP hD hS hA [0, 1] (by decide +kernel) rfl
  refine va_calli (va_runV (As := [.int x1]) (rest := []) ⟨hx, hb, hml, hown, hts⟩ (qOg l dC dI cyB cyI cyJ cyP a0 jif H.size (.int x1) (jl9) (jjY) (jmS) (jkr) jb7 jjA x1 hw) (cwV 1 hts gX8_seesDigit_X8_digitAt rfl rfl rfl (by decide +kernel) ⟨nbq rfl, nbq rfl⟩) ⟨qab, va_recv (q := (RX8, TX8, 7)) hK hPc (ci := 8) (q0 := 0) rfl rfl, qae hPc hK hDc hNw⟩ rfl rfl hl.1 rfl (lv_room (nbq rfl)) (qaa qkI 5 rfl) ⟨nbq rfl, nbq rfl⟩) hS (fun q _ h => hFc q h) hFc (fun r2 u t H1 locs ht hvm hw hB hz1 hk1 hS => ?_)
  obtain ⟨hP1, hK1, hD1⟩ := hB
  rw [ht] at hP1
  obtain ⟨hP, hD⟩ := qah (wr := []) (w1 := (qJF a0 jif jb7 x1 jl9 jjY jmS jkr jif cyB jjA)) (wn := (qJF a0 jif jb7 x1 jl9 jjY jmS jkr jif cyB jjA)) hP hD [0, 1] [] hCc rfl (by decide +kernel) (by decide +kernel) rfl hk1 hFc hP1 hD1
  generalize H1 = H at hP hS ⊢
  refine lv_if_lt (tgt := 19) hx hb (qaa qkI 6 rfl) (by decide) (fun c3 => ?_) (fun c3 => ?_)
  · have hw := hw.1 c3
    refine lv_iconst (v := 0) hx hb (qaa qkI 9 rfl) (by decide) ?_
    exact ((W.zret (v := 0) hx hb hr rfl (fun t ht hW => ⟨⟨0, (x1), rfl, hw, by rw [ht]; exact hP, va_K.moved hW.alike hK, hD⟩, hS.F ht⟩) hS.2.2 (qaa qkI 10 rfl)))
  · have hw := hw.2 c3
    refine lv_iconst (v := 1) hx hb (qaa qkI 7 rfl) (by decide) ?_
    refine lv_goto (tgt := 20) hx hb (qaa qkI 8 rfl) (by decide) ?_
    exact ((W.zret (v := 1) hx hb hr rfl (fun t ht hW => ⟨⟨1, (x1), rfl, hw, by rw [ht]; exact hP, va_K.moved hW.alike hK, hD⟩, hS.F ht⟩) hS.2.2 (qaa qkI 10 rfl)))
set_option maxHeartbeats 4000000 in
set_option maxRecDepth 100000 in
theorem qaFR (l : Launch) (dC : Nat → ClassId) (dI : Nat → Nat → Nat) (cyB cyI cyJ cyP : ClassId) (a0 jif sz : Nat) (jl9 jjY : Value) (jb7 : Int32) (jjA : NI) (jcP jkC jj3 : Int32) {Q : Int32 → Int32 → Int32 → Prop} (hw : qT2 jb7 jjA jcP jkC jj3 Q) : Met l yX8_needsEnd wsX8_needsEnd ({ frames := 2, cells := 0, slots := 0, locals := 42 }) (va_Pc [.ref a0] (cPc (dC, dI) (kT cyB cyI cyJ cyP) (qJq a0 jif jb7 jcP jl9 jjY jkC jj3 jif cyB jjA) sz)) (va_Qv (fun (u : Int32 × Int32 × Int32) => Q u.1 u.2.1 u.2.2) (cB (dC, dI) (kT cyB cyI cyJ cyP) (va_A (qJq a0 jif jb7 jcP jl9 jjY jkC jj3 jif cyB jjA) sz) (fun u : Int32 × Int32 × Int32 => ((qJq a0 jif jb7 u.1 jl9 jjY u.2.1 u.2.2 jif cyB jjA) : va_W))) (va_A (qJq a0 jif jb7 jcP jl9 jjY jkC jj3 jif cyB jjA) sz)) 0 0 (va_A (qJq a0 jif jb7 jcP jl9 jjY jkC jj3 jif cyB jjA) sz) := by
  refine Met.ofW (cc := cX8_needsEnd) (maxL := 1) (ret := none) (by decide) rfl ?_
  intro p e s m args below meth c s₁ B hml hv
  obtain ⟨rfl, hsz, hP, hK, hD0, hNw⟩ := hv
  have hx := B.exec
  have hb := B.bytes
  have hr := B.returns
  have hts := atoms_spec (ws := wsX8_needsEnd) B.pre
  have hown : s.vm.findClass RX8 = some m.cls := findClass_of_methodNamed B.named
  have hlocks := B.notSynchronized
  subst hsz
  have hD := hD0.self (sz := s.heap.size)
  generalize hAe : va_A (qJq a0 jif jb7 jcP jl9 jjY jkC jj3 jif cyB jjA) s.heap.size = A at hD ⊢
  have hA : ∀ q : Nat, s.heap.size ≤ q → A q := fun q h => by rw [← hAe]; exact Or.inr h
  have hS : va_S A s.heap s.heap [] := va_S.rf
  have hP : va_P (dC, dI) vwCl (qJq a0 jif jb7 jcP jl9 jjY jkC jj3 jif cyB jjA) s.heap := hP
  have hl := lv_entry ([.ref a0]) (n := 1) (nbq rfl)
  rw [lg_entry_eq]
  generalize (lg_sl ([.ref a0]) ++ List.replicate (1 - (lg_sl ([.ref a0])).length) Slot.unset).toArray = ls at hl ⊢
  have hl : lv_has ls 1 [(0, .ref a0)] := hl
  have C0 : cfx p s m _ meth c cX8_needsEnd none wsX8_needsEnd RX8 1 A (dC, dI) (kT cyB cyI cyJ cyP) := ⟨hx, hb, hr, hts, hown, hlocks, hml, hA, hK, hNw⟩
  clear hAe
  obtain ⟨H, hH⟩ : ∃ H, H = s.heap := ⟨_, rfl⟩
  rw [← hH] at hP ⊢
  have hS : va_S A s.heap H [] := by rw [hH]; exact va_S.rf
  have hS := hS
  refine lv_aload_n hx hb (qaa quE 0 rfl) rfl (lv_at hl 0 rfl) ?_
  obtain ⟨hCc, hPc, hDc, hFc⟩ := qac (ws' := (qJq a0 jif jb7 jcP jl9 jjY jkC jj3 jif cyB jjA)) hP hD hS hA [0, 1] (by decide +kernel) rfl
  refine va_calli (va_runV (As := []) (rest := []) ⟨hx, hb, hml, hown, hts⟩ (qN4 l dC dI cyB cyI cyJ cyP a0 jif H.size (jl9) (jjY) (.int jkC) (.int jj3) jb7 jjA jcP hw) (cwV 0 hts gX8_needsEnd_X8_isEnded rfl rfl rfl (by decide +kernel) ⟨nbq rfl, nbq rfl⟩) ⟨qab, va_recv (q := (RX8, TX8, 7)) hK hPc (ci := 8) (q0 := 0) rfl rfl, qae hPc hK hDc hNw⟩ rfl rfl hl.1 rfl (lv_room (nbq rfl)) (qaa quE 1 rfl) ⟨nbq rfl, nbq rfl⟩) hS (fun q _ h => hFc q h) hFc (fun r2 u t H1 locs ht hvm hw hB hz1 hk1 hS => ?_)
  obtain ⟨x1, rfl⟩ : ∃ z, z = u := ⟨_, rfl⟩
  obtain ⟨hP1, hK1, hD1⟩ := hB
  rw [ht] at hP1
  obtain ⟨hP, hD⟩ := qah (wr := []) (w1 := (qJq a0 jif jb7 x1 jl9 jjY jkC jj3 jif cyB jjA)) (wn := (qJq a0 jif jb7 x1 jl9 jjY jkC jj3 jif cyB jjA)) hP hD [0, 1] [] hCc rfl (by decide +kernel) (by decide +kernel) rfl hk1 hFc hP1 hD1
  generalize H1 = H at hP hS ⊢
  refine lv_if_ne (tgt := 11) hx hb (qaa quE 2 rfl) (by decide) (fun c3 => ?_) (fun c3 => ?_)
  · have hw := hw.1 c3
    exact ((W.vret hx hb hr (fun t ht hW => ⟨⟨(x1, jkC, jj3), rfl, hw, by rw [ht]; exact hP, va_K.moved hW.alike hK, hD⟩, hS.F ht⟩) hS.2.2 (qaa quE 5 rfl)))
  · have hw := hw.2 c3
    refine lv_aload_n hx hb (qaa quE 3 rfl) rfl (lv_at hl 0 rfl) ?_
    obtain ⟨hCc, hPc, hDc, hFc⟩ := qac (ws' := (qJq a0 jif jb7 x1 jl9 jjY jkC jj3 jif cyB jjA)) hP hD hS hA [0, 1] (by decide +kernel) rfl
    refine va_callv (va_runV (As := []) (rest := []) ⟨hx, hb, hml, hown, hts⟩ (qBx l dC dI cyB cyI cyJ cyP a0 jif H.size (jl9) (jjY) jb7 jjA x1 jkC jj3 hw) (cwV 0 hts gX8_needsEnd_X8_blameSign rfl rfl rfl (by decide +kernel) ⟨nbq rfl, nbq rfl⟩) ⟨qab, va_recv (q := (RX8, TX8, 7)) hK hPc (ci := 8) (q0 := 0) rfl rfl, qae hPc hK hDc hNw⟩ rfl rfl hl.1 rfl (lv_room (nbq rfl)) (qaa quE 4 rfl) ⟨nbq rfl, nbq rfl⟩) hS (fun q _ h => hFc q h) hFc (fun u t H1 locs ht hvm hw hB hz1 hk1 hS => ?_)
    obtain ⟨x4, x5, x6⟩ := u
    obtain ⟨hP1, hK1, hD1⟩ := hB
    rw [ht] at hP1
    obtain ⟨hP, hD⟩ := qah (wr := []) (w1 := (qJq a0 jif jb7 x4 jl9 jjY x5 x6 jif cyB jjA)) (wn := (qJq a0 jif jb7 x4 jl9 jjY x5 x6 jif cyB jjA)) hP hD [0, 1] [] hCc rfl (by decide +kernel) (by decide +kernel) rfl hk1 hFc hP1 hD1
    generalize H1 = H at hP hS ⊢
    exact ((W.vret hx hb hr (fun t ht hW => ⟨⟨(x4, x5, x6), rfl, hw, by rw [ht]; exact hP, va_K.moved hW.alike hK, hD⟩, hS.F ht⟩) hS.2.2 (qaa quE 5 rfl)))
theorem qaSe : ∀ w ∈ u_ws RX1 TX1 4, w ∈ wsX1_obey := uiM qaUN qV8 (by decide +kernel)
theorem qaHv : (.fieldLink RX1 28 "MarchHares$Days" "law" "LMarchHares$Law;" : Cond) ∈ wsX1_obey := qaUN 323 (by decide +kernel)
set_option maxHeartbeats 4000000 in
set_option maxRecDepth 100000 in
theorem qa1I (l : Launch) (dC : Nat → ClassId) (dI : Nat → Nat → Nat) (cyB cyI cyJ cyP : ClassId) (a0 a1 sz : Nat) (jmX jcD ji6 jo9 : Value) {Q : Prop} (hw : qaLF Q) : Met l yX1_obey wsX1_obey ({ frames := 0, cells := 0, slots := 0, locals := 0 }) (va_Pc [.ref a0, .ref a1] (cPc (dC, dI) (kT cyB cyI cyJ cyP) (qais a0 jmX jcD ji6 jo9) sz)) (va_Qv (fun (_ : Unit) => Q ) (cB (dC, dI) (kT cyB cyI cyJ cyP) (va_A (qais a0 jmX jcD ji6 jo9) sz) (fun u : Unit => ((qaZp a0 jmX jcD ji6 a1) : va_W))) (va_A (qais a0 jmX jcD ji6 jo9) sz)) 0 0 (va_A (qais a0 jmX jcD ji6 jo9) sz) := by
  refine Met.ofW (cc := cX1_obey) (maxL := 2) (ret := none) (by decide) rfl ?_
  intro p e s m args below meth c s₁ B hml hv
  obtain ⟨rfl, hsz, hP, hK, hD0, hNw⟩ := hv
  have hx := B.exec
  have hb := B.bytes
  have hr := B.returns
  have hts := atoms_spec (ws := wsX1_obey) B.pre
  have hown : s.vm.findClass RX1 = some m.cls := findClass_of_methodNamed B.named
  have hlocks := B.notSynchronized
  subst hsz
  have hD := hD0.self (sz := s.heap.size)
  generalize hAe : va_A (qais a0 jmX jcD ji6 jo9) s.heap.size = A at hD ⊢
  have hA : ∀ q : Nat, s.heap.size ≤ q → A q := fun q h => by rw [← hAe]; exact Or.inr h
  have hS : va_S A s.heap s.heap [] := va_S.rf
  have hP : va_P (dC, dI) vwCl (qais a0 jmX jcD ji6 jo9) s.heap := hP
  have hl := lv_entry ([.ref a0, .ref a1]) (n := 2) (nbq rfl)
  rw [lg_entry_eq]
  generalize (lg_sl ([.ref a0, .ref a1]) ++ List.replicate (2 - (lg_sl ([.ref a0, .ref a1])).length) Slot.unset).toArray = ls at hl ⊢
  have hl : lv_has ls 2 [(0, .ref a0), (1, .ref a1)] := hl
  have C0 : cfx p s m _ meth c cX1_obey none wsX1_obey RX1 2 A (dC, dI) (kT cyB cyI cyJ cyP) := ⟨hx, hb, hr, hts, hown, hlocks, hml, hA, hK, hNw⟩
  clear hAe
  obtain ⟨H, hH⟩ : ∃ H, H = s.heap := ⟨_, rfl⟩
  rw [← hH] at hP ⊢
  have hS : va_S A s.heap H [] := by rw [hH]; exact va_S.rf
  have hS := hS
  refine lv_aload_n hx hb (qaa qSp 0 rfl) rfl (lv_at hl 0 rfl) ?_
  refine lv_aload_n hx hb (qaa qSp 1 rfl) rfl (lv_at hl 1 rfl) ?_
  refine va_put (D := (dC, dI)) (ci := 1) (v := .ref a1) (ty := .object "MarchHares$Law") (C := RX1) (T := TX1) (N := 4) hx hb hts qaSe tyX1 tyX1_ok nmX1 hown hK hP hD hS 0 rfl rfl 3 (by decide) (hts _ qaHv) (fun _ h9 => h9) rfl (by decide +kernel) rfl rfl (nbq rfl) (qaa qSp 2 rfl) (fun H locs hP hD hS => ?_)
  have hP : va_P (dC, dI) vwCl (qaZp a0 jmX jcD ji6 a1) H := hP
  have hD : va_D A (qaZp a0 jmX jcD ji6 a1) := hD
  exact ((W.vret hx hb hr (fun t ht hW => ⟨⟨(), rfl, hw, by rw [ht]; exact hP, va_K.moved hW.alike hK, hD⟩, hS.F ht⟩) hS.2.2 (qaa qSp 3 rfl)))
theorem qZU : ∀ w ∈ u_ws RX3 TX3 11, w ∈ wsX3_tallied := uiM qLH euX3 (by decide +kernel)
theorem qVc : (.fieldLink RX3 21 "MarchHares$Fitting" "tally" "[I" : Cond) ∈ wsX3_tallied := qLH 393 (by decide +kernel)
theorem q15 : (.initialized RX10 : Cond) ∈ wsX3_tallied := qLH 2 (by decide +kernel)
theorem qRt : (.static yX10_within : Cond) ∈ wsX3_tallied := qLH 658 (by decide +kernel)
set_option maxHeartbeats 4000000 in
set_option maxRecDepth 100000 in
theorem qaQa (l : Launch) (dC : Nat → ClassId) (dI : Nat → Nat → Nat) (cyB cyI cyJ cyP : ClassId) (a0 jlj sz : Nat) (jmf jpq jlU ja4 ja0 jaO jmb jmc jkn jjZ : Value) (jly : NI) (p1 : Int32) {Q : Int32 → NI → Prop} (hw : qXV jly p1 Q) : Met l yX3_tallied wsX3_tallied ({ frames := 1, cells := 0, slots := 0, locals := 22 }) (va_Pc [.ref a0, .int p1] (cPc (dC, dI) (kT cyB cyI cyJ cyP) (qPf a0 jmf jpq jlU jlj ja4 ja0 jaO jmb jmc jkn jjZ jlj cyI jly) sz)) (va_Qi (fun (r : Int32) (u : NI) => Q r u) (cB (dC, dI) (kT cyB cyI cyJ cyP) (va_A (qPf a0 jmf jpq jlU jlj ja4 ja0 jaO jmb jmc jkn jjZ jlj cyI jly) sz) (fun u : NI => ((qPf a0 jmf jpq jlU jlj ja4 ja0 jaO jmb jmc jkn jjZ jlj cyI u) : va_W))) (va_A (qPf a0 jmf jpq jlU jlj ja4 ja0 jaO jmb jmc jkn jjZ jlj cyI jly) sz)) 0 0 (va_A (qPf a0 jmf jpq jlU jlj ja4 ja0 jaO jmb jmc jkn jjZ jlj cyI jly) sz) := by
  refine Met.ofW (cc := cX3_tallied) (maxL := 2) (ret := (some .int)) (by decide) rfl ?_
  intro p e s m args below meth c s₁ B hml hv
  obtain ⟨rfl, hsz, hP, hK, hD0, hNw⟩ := hv
  have hx := B.exec
  have hb := B.bytes
  have hr := B.returns
  have hts := atoms_spec (ws := wsX3_tallied) B.pre
  have hown : s.vm.findClass RX3 = some m.cls := findClass_of_methodNamed B.named
  have hlocks := B.notSynchronized
  subst hsz
  have hD := hD0.self (sz := s.heap.size)
  generalize hAe : va_A (qPf a0 jmf jpq jlU jlj ja4 ja0 jaO jmb jmc jkn jjZ jlj cyI jly) s.heap.size = A at hD ⊢
  have hA : ∀ q : Nat, s.heap.size ≤ q → A q := fun q h => by rw [← hAe]; exact Or.inr h
  have hS : va_S A s.heap s.heap [] := va_S.rf
  have hP : va_P (dC, dI) vwCl (qPf a0 jmf jpq jlU jlj ja4 ja0 jaO jmb jmc jkn jjZ jlj cyI jly) s.heap := hP
  have hl := lv_entry ([.ref a0, .int p1]) (n := 2) (nbq rfl)
  rw [lg_entry_eq]
  generalize (lg_sl ([.ref a0, .int p1]) ++ List.replicate (2 - (lg_sl ([.ref a0, .int p1])).length) Slot.unset).toArray = ls at hl ⊢
  have hl : lv_has ls 2 [(0, .ref a0), (1, .int p1)] := hl
  have C0 : cfx p s m _ meth c cX3_tallied (some .int) wsX3_tallied RX3 2 A (dC, dI) (kT cyB cyI cyJ cyP) := ⟨hx, hb, hr, hts, hown, hlocks, hml, hA, hK, hNw⟩
  clear hAe
  obtain ⟨H, hH⟩ : ∃ H, H = s.heap := ⟨_, rfl⟩
  rw [← hH] at hP ⊢
  have hS : va_S A s.heap H [] := by rw [hH]; exact va_S.rf
  have hS := hS
  refine lv_iload_n hx hb (qaa qhT 0 rfl) rfl (lv_at hl 1 rfl) ?_
  refine lv_iconst (v := 0) hx hb (qaa qhT 1 rfl) (by decide) ?_
  refine lv_bipush (v := 6) hx hb (qaa qhT 2 rfl) (by decide) ?_
  obtain ⟨hCc, hPc, hDc, hFc⟩ := qac (ws' := []) hP hD hS hA [] (by decide +kernel) rfl
  refine va_calli (va_runSN (As := [.int p1, .int 0, .int 6]) (rest := []) ⟨hx, hb, hml, hown, hts⟩ (qzJ l dC dI cyB cyI cyJ cyP H.size p1 0 6 hw) ⟨(va_cnB 3 hts gX3_tallied_X10_within_n106 rfl rfl rfl (qblw hNw) (hts _ q15) (by decide +kernel) ⟨nbq rfl, nbq rfl⟩), (hts _ qRt), trivial⟩ ⟨qab, qae hPc hK hDc hNw⟩ rfl rfl hl.1 rfl (lv_room (nbq rfl)) (qaa qhT 3 rfl) ⟨nbq rfl, nbq rfl⟩) hS (fun q _ h => hFc q h) hFc (fun r1 u t H1 locs ht hvm hw hB hz1 hk1 hS => ?_)
  obtain ⟨hP1, hK1, hD1⟩ := hB
  rw [ht] at hP1
  obtain ⟨hP, hD⟩ := qah (wr := (qPf a0 jmf jpq jlU jlj ja4 ja0 jaO jmb jmc jkn jjZ jlj cyI jly)) (w1 := []) (wn := (qPf a0 jmf jpq jlU jlj ja4 ja0 jaO jmb jmc jkn jjZ jlj cyI jly)) hP hD [] [0, 1] hCc rfl (by decide +kernel) (by decide +kernel) rfl hk1 hFc hP1 hD1
  generalize H1 = H at hP hS ⊢
  refine lv_if_ne (tgt := 12) hx hb (qaa qhT 4 rfl) (by decide) (fun c2 => ?_) (fun c2 => ?_)
  · have hw := hw.1 c2
    refine lv_aload_n hx hb (qaa qhT 7 rfl) rfl (lv_at hl 0 rfl) ?_
    refine va_get (D := (dC, dI)) (ci := 3) (v := .ref jlj) (C := RX3) (T := TX3) (N := 11) hx hb hts qZU hown hK hP 0 rfl rfl 3 (by decide) (hts _ qVc) (fun _ h9 => h9) rfl (qaa qhT 8 rfl) ?_
    refine lv_iload_n hx hb (qaa qhT 9 rfl) rfl (lv_at hl 1 rfl) ?_
    refine lv_dup2_11 hx hb (qaa qhT 10 rfl) rfl rfl ?_
    obtain ⟨hi9, hw⟩ := hw
    refine va_iald hx hb hK hP 1 1 rfl rfl hi9 (qaa qhT 11 rfl) ?_
    refine lv_topi (fun x3 ex3 => ?_)
    have hw := hw x3 ex3
    refine lv_iconst (v := 1) hx hb (qaa qhT 12 rfl) (by decide) ?_
    refine lv_iadd hx hb (qaa qhT 13 rfl) ?_
    refine lv_topi (fun x4 ex4 => ?_)
    have hw := hw x4 ex4
    obtain ⟨hi9, hw⟩ := hw
    refine va_iast hx hb hK hP hD hS 1 1 rfl rfl hi9 (qaa qhT 14 rfl) (fun H locs hP hD hS => ?_)
    obtain ⟨f5, ef5⟩ : ∃ y : NI, y = upd jly p1.toNatClampNeg x4 := ⟨_, rfl⟩
    have hw := hw f5 ef5
    have hP : va_P (dC, dI) vwCl (qPf a0 jmf jpq jlU jlj ja4 ja0 jaO jmb jmc jkn jjZ jlj cyI f5) H := by rw [ef5]; exact hP
    have hD : va_D A (qPf a0 jmf jpq jlU jlj ja4 ja0 jaO jmb jmc jkn jjZ jlj cyI f5) := by rw [ef5]; exact hD
    refine lv_aload_n hx hb (qaa qhT 15 rfl) rfl (lv_at hl 0 rfl) ?_
    refine va_get (D := (dC, dI)) (ci := 3) (v := .ref jlj) (C := RX3) (T := TX3) (N := 11) hx hb hts qZU hown hK hP 0 rfl rfl 3 (by decide) (hts _ qVc) (fun _ h9 => h9) rfl (qaa qEJ 0 rfl) ?_
    refine lv_iload_n hx hb (qaa qEJ 1 rfl) rfl (lv_at hl 1 rfl) ?_
    obtain ⟨hi9, hw⟩ := hw
    refine va_iald hx hb hK hP 1 1 rfl rfl hi9 (qaa qEJ 2 rfl) ?_
    refine lv_topi (fun x6 ex6 => ?_)
    have hw := hw x6 ex6
    exact ((W.iret (v := x6) hx hb hr (fun t ht hW => ⟨⟨x6, (f5), rfl, hw, by rw [ht]; exact hP, va_K.moved hW.alike hK, hD⟩, hS.F ht⟩) hS.2.2 (qaa qEJ 3 rfl)))
  · have hw := hw.2 c2
    refine lv_iconst (v := 0) hx hb (qaa qhT 5 rfl) (by decide) ?_
    exact ((W.iret (v := 0) hx hb hr (fun t ht hW => ⟨⟨0, (jly), rfl, hw, by rw [ht]; exact hP, va_K.moved hW.alike hK, hD⟩, hS.F ht⟩) hS.2.2 (qaa qhT 6 rfl)))
theorem qEZ : ∀ w ∈ u_ws RX3 TX3 11, w ∈ wsX3_worstAt := uiM qot euX3 (by decide +kernel)
theorem qal9 : (.fieldLink RX3 18 "MarchHares$Fitting" "fittingForms" "[I" : Cond) ∈ wsX3_worstAt := qot 392 (by decide +kernel)
theorem qamo : (.fieldLink RX3 21 "MarchHares$Fitting" "tally" "[I" : Cond) ∈ wsX3_worstAt := qot 393 (by decide +kernel)
theorem qaiF : (.fieldLink RX3 36 "MarchHares$Fitting" "hares" "I" : Cond) ∈ wsX3_worstAt := qot 3468 (by decide +kernel)
theorem qajb : (.fieldLink RX3 40 "MarchHares$Fitting" "forms" "I" : Cond) ∈ wsX3_worstAt := qot 3470 (by decide +kernel)
theorem q3A : (.initialized RX10 : Cond) ∈ wsX3_worstAt := qot 2 (by decide +kernel)
theorem qagb : (.initialized "java/lang/Math" : Cond) ∈ wsX3_worstAt := qot 651 (by decide +kernel)
theorem qaeu : (.methodLink RX3 100 Lib.Math.max.name : Cond) ∈ wsX3_worstAt := qot 3606 (by decide +kernel)
theorem q8O : (.code Lib.Math.max.name Lib.Math.max.code 2 (some .int) : Cond) ∈ wsX3_worstAt := qot 1931 (by decide +kernel)
theorem q9x : (.static Lib.Math.max.name : Cond) ∈ wsX3_worstAt := qot 1930 (by decide +kernel)
theorem qTl : (.static yX10_holds : Cond) ∈ wsX3_worstAt := qot 2052 (by decide +kernel)
set_option maxHeartbeats 4000000 in
set_option maxRecDepth 100000 in
theorem qYQ {p : Program} {l : Launch} {e : Env} {s : State} {m : MethodId} {args : Array Value} {below : List Frame} {meth : Method} {c : Code} {A : Nat → Prop} (dC : Nat → ClassId) (dI : Nat → Nat → Nat) (cyB cyI cyJ cyP : ClassId) (a0 jlj jhn jhX ji2 : Nat) (jaO jmb jmc jkn jjZ : Value) (jaC jaN : Int32) (jim jiL jjH : NI) (Q : Int32 → NI → Prop) (K25 : NI → Int32 → Int32 → Int32 → Prop) (K36 : NI → Int32 → Int32 → Int32 → Int32 → Prop) (hK25 : ∀ (H : Heap) (locs : List Loc) (ls : Array Slot) (jly : NI) (l1 l2 l3 : Int32), va_P (dC, dI) vwCl (qpE a0 jhX ji2 jhn jlj jaC jaN jaO jmb jmc jkn jjZ jlj cyI jly jhn cyI jim jhX cyI jiL ji2 cyI jjH) H → va_D A (qpE a0 jhX ji2 jhn jlj jaC jaN jaO jmb jmc jkn jjZ jlj cyI jly jhn cyI jim jhX cyI jiL ji2 cyI jjH) → va_S A s.heap H locs → lv_has ls 5 [(0, .ref a0), (1, .int l1), (2, .int l2), (3, .int l3)] → K25 jly l1 l2 l3 → W p l e (headSpec wsX3_worstAt ({ frames := 2, cells := 0, slots := 0, locals := 43 })).room s m args below meth c H locs 0 0 (MQ below (va_Qi (fun (r : Int32) (u : NI) => Q r u) (cB (dC, dI) (kT cyB cyI cyJ cyP) A (fun u : NI => ((qpE a0 jhX ji2 jhn jlj jaC jaN jaO jmb jmc jkn jjZ jlj cyI u jhn cyI jim jhX cyI jiL ji2 cyI jjH) : va_W))) A) args s 0 0 A) (F0 m 25 ls [])) (hK36 : ∀ (H : Heap) (locs : List Loc) (ls : Array Slot) (jly : NI) (l1 l2 l3 l4 : Int32), va_P (dC, dI) vwCl (qpE a0 jhX ji2 jhn jlj jaC jaN jaO jmb jmc jkn jjZ jlj cyI jly jhn cyI jim jhX cyI jiL ji2 cyI jjH) H → va_D A (qpE a0 jhX ji2 jhn jlj jaC jaN jaO jmb jmc jkn jjZ jlj cyI jly jhn cyI jim jhX cyI jiL ji2 cyI jjH) → va_S A s.heap H locs → lv_has ls 5 [(0, .ref a0), (1, .int l1), (2, .int l2), (3, .int l3), (4, .int l4)] → K36 jly l1 l2 l3 l4 → W p l e (headSpec wsX3_worstAt ({ frames := 2, cells := 0, slots := 0, locals := 43 })).room s m args below meth c H locs 0 0 (MQ below (va_Qi (fun (r : Int32) (u : NI) => Q r u) (cB (dC, dI) (kT cyB cyI cyJ cyP) A (fun u : NI => ((qpE a0 jhX ji2 jhn jlj jaC jaN jaO jmb jmc jkn jjZ jlj cyI u jhn cyI jim jhX cyI jiL ji2 cyI jjH) : va_W))) A) args s 0 0 A) (F0 m 36 ls [])) (C0 : cfx p s m args meth c cX3_worstAt (some .int) wsX3_worstAt RX3 5 A (dC, dI) (kT cyB cyI cyJ cyP)) : ∀ (H : Heap) (locs : List Loc) (ls : Array Slot) (jly : NI) (l1 l2 l3 l4 : Int32), va_P (dC, dI) vwCl (qpE a0 jhX ji2 jhn jlj jaC jaN jaO jmb jmc jkn jjZ jlj cyI jly jhn cyI jim jhX cyI jiL ji2 cyI jjH) H → va_D A (qpE a0 jhX ji2 jhn jlj jaC jaN jaO jmb jmc jkn jjZ jlj cyI jly jhn cyI jim jhX cyI jiL ji2 cyI jjH) → va_S A s.heap H locs → lv_has ls 5 [(0, .ref a0), (1, .int l1), (2, .int l2), (3, .int l3), (4, .int l4)] → qNc jaC jaN jim jiL jjH Q K25 K36 jly l1 l2 l3 l4 → W p l e (headSpec wsX3_worstAt ({ frames := 2, cells := 0, slots := 0, locals := 43 })).room s m args below meth c H locs 0 0 (MQ below (va_Qi (fun (r : Int32) (u : NI) => Q r u) (cB (dC, dI) (kT cyB cyI cyJ cyP) A (fun u : NI => ((qpE a0 jhX ji2 jhn jlj jaC jaN jaO jmb jmc jkn jjZ jlj cyI u jhn cyI jim jhX cyI jiL ji2 cyI jjH) : va_W))) A) args s 0 0 A) (F0 m 76 ls []) := by
  obtain ⟨hx, hb, hr, hts, hown, hlocks, hml, hA, hK, hNw⟩ := id C0
  intro H locs ls jly l1 l2 l3 l4 hP hD hS hl hw
  obtain ⟨x14, ex14⟩ : ∃ y : Int32, y = l4 + 1 := ⟨_, rfl⟩
  have hw := hw x14 ex14
  refine lv_iinc (v := x14) (lv' := [(4, .int x14), (0, .ref a0), (1, .int l1), (2, .int l2), (3, .int l3)]) hx hb (qaa qf3 11 rfl) hl (k := 4) rfl (by rw [ex14]; rfl) (by decide) rfl (fun ls hl => ?_)
  refine lv_goto (tgt := 36) hx hb (qaa qf3 12 rfl) (by decide) ?_
  exact hK36 _ _ _ jly l1 l2 l3 x14 hP hD hS (lv_sub hl [1, 2, 3, 4, 0] rfl) hw
set_option maxHeartbeats 4000000 in
set_option maxRecDepth 100000 in
theorem qatg {p : Program} {l : Launch} {e : Env} {s : State} {m : MethodId} {args : Array Value} {below : List Frame} {meth : Method} {c : Code} {A : Nat → Prop} (dC : Nat → ClassId) (dI : Nat → Nat → Nat) (cyB cyI cyJ cyP : ClassId) (a0 jlj jhn jhX ji2 : Nat) (jaO jmb jmc jkn jjZ : Value) (jaC jaN : Int32) (jim jiL jjH : NI) (Q : Int32 → NI → Prop) (K25 : NI → Int32 → Int32 → Int32 → Prop) (hK25 : ∀ (H : Heap) (locs : List Loc) (ls : Array Slot) (jly : NI) (l1 l2 l3 : Int32), va_P (dC, dI) vwCl (qpE a0 jhX ji2 jhn jlj jaC jaN jaO jmb jmc jkn jjZ jlj cyI jly jhn cyI jim jhX cyI jiL ji2 cyI jjH) H → va_D A (qpE a0 jhX ji2 jhn jlj jaC jaN jaO jmb jmc jkn jjZ jlj cyI jly jhn cyI jim jhX cyI jiL ji2 cyI jjH) → va_S A s.heap H locs → lv_has ls 5 [(0, .ref a0), (1, .int l1), (2, .int l2), (3, .int l3)] → K25 jly l1 l2 l3 → W p l e (headSpec wsX3_worstAt ({ frames := 2, cells := 0, slots := 0, locals := 43 })).room s m args below meth c H locs 0 0 (MQ below (va_Qi (fun (r : Int32) (u : NI) => Q r u) (cB (dC, dI) (kT cyB cyI cyJ cyP) A (fun u : NI => ((qpE a0 jhX ji2 jhn jlj jaC jaN jaO jmb jmc jkn jjZ jlj cyI u jhn cyI jim jhX cyI jiL ji2 cyI jjH) : va_W))) A) args s 0 0 A) (F0 m 25 ls [])) (C0 : cfx p s m args meth c cX3_worstAt (some .int) wsX3_worstAt RX3 5 A (dC, dI) (kT cyB cyI cyJ cyP)) : ∀ (n : Nat) (H : Heap) (locs : List Loc) (ls : Array Slot) (jly : NI) (l1 l2 l3 l4 : Int32), va_P (dC, dI) vwCl (qpE a0 jhX ji2 jhn jlj jaC jaN jaO jmb jmc jkn jjZ jlj cyI jly jhn cyI jim jhX cyI jiL ji2 cyI jjH) H → va_D A (qpE a0 jhX ji2 jhn jlj jaC jaN jaO jmb jmc jkn jjZ jlj cyI jly jhn cyI jim jhX cyI jiL ji2 cyI jjH) → va_S A s.heap H locs → lv_has ls 5 [(0, .ref a0), (1, .int l1), (2, .int l2), (3, .int l3), (4, .int l4)] → quJ jaC jaN jim jiL jjH Q K25 n jly l1 l2 l3 l4 → W p l e (headSpec wsX3_worstAt ({ frames := 2, cells := 0, slots := 0, locals := 43 })).room s m args below meth c H locs 0 0 (MQ below (va_Qi (fun (r : Int32) (u : NI) => Q r u) (cB (dC, dI) (kT cyB cyI cyJ cyP) A (fun u : NI => ((qpE a0 jhX ji2 jhn jlj jaC jaN jaO jmb jmc jkn jjZ jlj cyI u jhn cyI jim jhX cyI jiL ji2 cyI jjH) : va_W))) A) args s 0 0 A) (F0 m 36 ls []) := by
  obtain ⟨hx, hb, hr, hts, hown, hlocks, hml, hA, hK, hNw⟩ := id C0
  intro n
  induction n with
  | zero => intro H locs ls jly l1 l2 l3 l4 hP hD hS hl hw; exact False.elim hw
  | succ n ih =>
    intro H locs ls jly l1 l2 l3 l4 hP hD hS hl hw
    refine lv_iload hx hb (qaa qfF 6 rfl) (lv_at hl 4 rfl) ?_
    refine lv_aload_n hx hb (qaa qfF 7 rfl) rfl (lv_at hl 0 rfl) ?_
    refine va_get (D := (dC, dI)) (ci := 3) (v := .int jaN) (C := RX3) (T := TX3) (N := 11) hx hb hts qEZ hown hK hP 0 rfl rfl 5 (by decide) (hts _ qajb) (fun _ h9 => h9) rfl (qaa qfF 8 rfl) ?_
    refine lv_icmp_ge (tgt := 82) hx hb (qaa qfF 9 rfl) (by decide) (fun c5 => ?_) (fun c5 => ?_)
    · have hw := hw.1 c5
      obtain ⟨x6, ex6⟩ : ∃ y : Int32, y = l3 + 1 := ⟨_, rfl⟩
      have hw := hw x6 ex6
      refine lv_iinc (v := x6) (lv' := [(3, .int x6), (0, .ref a0), (1, .int l1), (2, .int l2), (4, .int l4)]) hx hb (qaa qf3 13 rfl) hl (k := 3) rfl (by rw [ex6]; rfl) (by decide) rfl (fun ls hl => ?_)
      refine lv_goto (tgt := 25) hx hb (qaa qf3 14 rfl) (by decide) ?_
      exact hK25 _ _ _ jly l1 l2 x6 hP hD hS (lv_sub hl [1, 2, 3, 0] rfl) hw
    · have hw := hw.2 c5
      refine lv_aload_n hx hb (qaa qfF 10 rfl) rfl (lv_at hl 0 rfl) ?_
      refine va_get (D := (dC, dI)) (ci := 3) (v := .ref jhn) (C := RX3) (T := TX3) (N := 11) hx hb hts qEZ hown hK hP 0 rfl rfl 2 (by decide) (hts _ qal9) (fun _ h9 => h9) rfl (qaa qfF 11 rfl) ?_
      refine lv_iload_n hx hb (qaa qfF 12 rfl) rfl (lv_at hl 3 rfl) ?_
      obtain ⟨hi9, hw⟩ := hw
      refine va_iald hx hb hK hP 2 1 rfl rfl hi9 (qaa qfF 13 rfl) ?_
      refine lv_topi (fun x7 ex7 => ?_)
      have hw := hw x7 ex7
      refine lv_iload hx hb (qaa qfF 14 rfl) (lv_at hl 4 rfl) ?_
      obtain ⟨hCc, hPc, hDc, hFc⟩ := qac (ws' := []) hP hD hS hA [] (by decide +kernel) rfl
      refine va_calli (va_runSN (As := [.int x7, .int l4]) (rest := []) ⟨hx, hb, hml, hown, hts⟩ (qnt l dC dI cyB cyI cyJ cyP H.size x7 l4 hw) ⟨(va_cnB 2 hts gX3_worstAt_X10_holds_n94 rfl rfl rfl (qblA hNw) (hts _ q3A) (by decide +kernel) ⟨nbq rfl, nbq rfl⟩), (hts _ qTl), trivial⟩ ⟨qab, qae hPc hK hDc hNw⟩ rfl rfl hl.1 rfl (lv_room (nbq rfl)) (qaa qfF 15 rfl) ⟨nbq rfl, nbq rfl⟩) hS (fun q _ h => hFc q h) hFc (fun r8 u t H1 locs ht hvm hw hB hz1 hk1 hS => ?_)
      obtain ⟨hP1, hK1, hD1⟩ := hB
      rw [ht] at hP1
      obtain ⟨hP, hD⟩ := qah (wr := (qpE a0 jhX ji2 jhn jlj jaC jaN jaO jmb jmc jkn jjZ jlj cyI jly jhn cyI jim jhX cyI jiL ji2 cyI jjH)) (w1 := []) (wn := (qpE a0 jhX ji2 jhn jlj jaC jaN jaO jmb jmc jkn jjZ jlj cyI jly jhn cyI jim jhX cyI jiL ji2 cyI jjH)) hP hD [] [0, 1, 2, 3, 4] hCc rfl (by decide +kernel) (by decide +kernel) rfl hk1 hFc hP1 hD1
      generalize H1 = H at hP hS ⊢
      refine lv_if_eq (tgt := 76) hx hb (qaa qf3 0 rfl) (by decide) (fun c9 => ?_) (fun c9 => ?_)
      · have hw := hw.1 c9
        exact qYQ dC dI cyB cyI cyJ cyP a0 jlj jhn jhX ji2 jaO jmb jmc jkn jjZ jaC jaN jim jiL jjH Q K25 (quJ jaC jaN jim jiL jjH Q K25 n) hK25 ih C0 _ _ _ jly l1 l2 l3 l4 hP hD hS (lv_sub hl [0, 1, 2, 3, 4] rfl) hw
      · have hw := hw.2 c9
        refine lv_iload_n hx hb (qaa qf3 1 rfl) rfl (lv_at hl 2 rfl) ?_
        refine lv_aload_n hx hb (qaa qf3 2 rfl) rfl (lv_at hl 0 rfl) ?_
        refine lv_aload_n hx hb (qaa qf3 3 rfl) rfl (lv_at hl 0 rfl) ?_
        refine lv_iload_n hx hb (qaa qf3 4 rfl) rfl (lv_at hl 1 rfl) ?_
        refine lv_iload_n hx hb (qaa qf3 5 rfl) rfl (lv_at hl 3 rfl) ?_
        refine lv_iload hx hb (qaa qf3 6 rfl) (lv_at hl 4 rfl) ?_
        obtain ⟨hCc, hPc, hDc, hFc⟩ := qac (ws' := (qa77 a0 jhX ji2 jhn jlj jaC jaN jaO jmb jmc jkn jjZ jhX cyI jiL ji2 cyI jjH)) hP hD hS hA [0, 3, 4] (by decide +kernel) rfl
        refine va_calli (va_runV (As := [.int l1, .int l3, .int l4]) (rest := [.ref a0, .int l2]) ⟨hx, hb, hml, hown, hts⟩ (qZV l dC dI cyB cyI cyJ cyP a0 jhX ji2 H.size (.ref jhn) (.ref jlj) (.int jaC) (.int jaN) (jaO) (jmb) (jmc) (jkn) (jjZ) jiL jjH l1 l3 l4 hw) (cwV 3 hts gX3_worstAt_X3_seatedThen rfl rfl rfl (by decide +kernel) ⟨nbq rfl, nbq rfl⟩) ⟨qab, va_recv (q := (RX3, TX3, 11)) hK hPc (ci := 3) (q0 := 0) rfl rfl, qae hPc hK hDc hNw⟩ rfl rfl hl.1 rfl (lv_room (nbq rfl)) (qaa qf3 7 rfl) ⟨nbq rfl, nbq rfl⟩) hS (fun q _ h => hFc q h) hFc (fun r10 u t H1 locs ht hvm hw hB hz1 hk1 hS => ?_)
        obtain ⟨hP1, hK1, hD1⟩ := hB
        rw [ht] at hP1
        obtain ⟨hP, hD⟩ := qad (wr := [(jlj, .inl (cyI, 7, .inl jly)), (jhn, .inl (cyI, 6, .inl jim))]) (w1 := (qa77 a0 jhX ji2 jhn jlj jaC jaN jaO jmb jmc jkn jjZ jhX cyI jiL ji2 cyI jjH)) (wn := (qpE a0 jhX ji2 jhn jlj jaC jaN jaO jmb jmc jkn jjZ jlj cyI jly jhn cyI jim jhX cyI jiL ji2 cyI jjH)) hP hD [0, 3, 4] [1, 2] [2, 0, 1, 3, 4] hCc rfl (by decide +kernel) (by decide +kernel) (by decide +kernel) rfl hk1 hFc hP1 hD1
        generalize H1 = H at hP hS ⊢
        obtain ⟨hCc, hPc, hDc, hFc⟩ := qac (ws' := (qa6s a0 jhX ji2 jhn jlj jaC jaN jaO jmb jmc jkn jjZ jlj cyI jly)) hP hD hS hA [0, 1] (by decide +kernel) rfl
        refine va_calli (va_runV (As := [.int r10]) (rest := [.int l2]) ⟨hx, hb, hml, hown, hts⟩ (qaQa l dC dI cyB cyI cyJ cyP a0 jlj H.size (.ref jhX) (.ref ji2) (.ref jhn) (.int jaC) (.int jaN) (jaO) (jmb) (jmc) (jkn) (jjZ) jly r10 hw) (cwV 1 hts gX3_worstAt_X3_tallied rfl rfl rfl (by decide +kernel) ⟨nbq rfl, nbq rfl⟩) ⟨qab, va_recv (q := (RX3, TX3, 11)) hK hPc (ci := 3) (q0 := 0) rfl rfl, qae hPc hK hDc hNw⟩ rfl rfl hl.1 rfl (lv_room (nbq rfl)) (qaa qf3 8 rfl) ⟨nbq rfl, nbq rfl⟩) hS (fun q _ h => hFc q h) hFc (fun r12 u t H1 locs ht hvm hw hB hz1 hk1 hS => ?_)
        obtain ⟨f11, rfl⟩ : ∃ z, z = u := ⟨_, rfl⟩
        obtain ⟨hP1, hK1, hD1⟩ := hB
        rw [ht] at hP1
        obtain ⟨hP, hD⟩ := qad (wr := [(jhn, .inl (cyI, 6, .inl jim)), (jhX, .inl (cyI, 8, .inl jiL)), (ji2, .inl (cyI, 6, .inl jjH))]) (w1 := (qa6s a0 jhX ji2 jhn jlj jaC jaN jaO jmb jmc jkn jjZ jlj cyI f11)) (wn := (qpE a0 jhX ji2 jhn jlj jaC jaN jaO jmb jmc jkn jjZ jlj cyI f11 jhn cyI jim jhX cyI jiL ji2 cyI jjH)) hP hD [0, 1] [2, 3, 4] [3, 4, 0, 1, 2] hCc rfl (by decide +kernel) (by decide +kernel) (by decide +kernel) rfl hk1 hFc hP1 hD1
        generalize H1 = H at hP hS ⊢
        refine va_mmax hx hb (by rw [hml]; exact hl.1.symm) hown (hts _ qaeu) (hts _ q9x) (hts _ qagb) (hts _ q8O) (nbq rfl) (nbq rfl) (nbq rfl) (nbq rfl) (qaa qf3 9 rfl) ?_
        refine lv_topi (fun x13 ex13 => ?_)
        have hw := hw x13 ex13
        refine lv_istore_n (lv' := [(2, .int x13), (0, .ref a0), (1, .int l1), (3, .int l3), (4, .int l4)]) hx hb (qaa qf3 10 rfl) rfl hl (by decide) rfl (fun ls hl => ?_)
        exact qYQ dC dI cyB cyI cyJ cyP a0 jlj jhn jhX ji2 jaO jmb jmc jkn jjZ jaC jaN jim jiL jjH Q K25 (quJ jaC jaN jim jiL jjH Q K25 n) hK25 ih C0 _ _ _ f11 l1 x13 l3 l4 hP hD hS (lv_sub hl [1, 2, 0, 3, 4] rfl) hw
set_option maxHeartbeats 4000000 in
set_option maxRecDepth 100000 in
theorem qauw {p : Program} {l : Launch} {e : Env} {s : State} {m : MethodId} {args : Array Value} {below : List Frame} {meth : Method} {c : Code} {A : Nat → Prop} (dC : Nat → ClassId) (dI : Nat → Nat → Nat) (cyB cyI cyJ cyP : ClassId) (a0 jlj jhn jhX ji2 : Nat) (jaO jmb jmc jkn jjZ : Value) (jaC jaN : Int32) (jim jiL jjH : NI) (Q : Int32 → NI → Prop) (C0 : cfx p s m args meth c cX3_worstAt (some .int) wsX3_worstAt RX3 5 A (dC, dI) (kT cyB cyI cyJ cyP)) : ∀ (n : Nat) (H : Heap) (locs : List Loc) (ls : Array Slot) (jly : NI) (l1 l2 l3 : Int32), va_P (dC, dI) vwCl (qpE a0 jhX ji2 jhn jlj jaC jaN jaO jmb jmc jkn jjZ jlj cyI jly jhn cyI jim jhX cyI jiL ji2 cyI jjH) H → va_D A (qpE a0 jhX ji2 jhn jlj jaC jaN jaO jmb jmc jkn jjZ jlj cyI jly jhn cyI jim jhX cyI jiL ji2 cyI jjH) → va_S A s.heap H locs → lv_has ls 5 [(0, .ref a0), (1, .int l1), (2, .int l2), (3, .int l3)] → qAi jaC jaN jim jiL jjH Q n jly l1 l2 l3 → W p l e (headSpec wsX3_worstAt ({ frames := 2, cells := 0, slots := 0, locals := 43 })).room s m args below meth c H locs 0 0 (MQ below (va_Qi (fun (r : Int32) (u : NI) => Q r u) (cB (dC, dI) (kT cyB cyI cyJ cyP) A (fun u : NI => ((qpE a0 jhX ji2 jhn jlj jaC jaN jaO jmb jmc jkn jjZ jlj cyI u jhn cyI jim jhX cyI jiL ji2 cyI jjH) : va_W))) A) args s 0 0 A) (F0 m 25 ls []) := by
  obtain ⟨hx, hb, hr, hts, hown, hlocks, hml, hA, hK, hNw⟩ := id C0
  intro n
  induction n with
  | zero => intro H locs ls jly l1 l2 l3 hP hD hS hl hw; exact False.elim hw
  | succ n ih =>
    intro H locs ls jly l1 l2 l3 hP hD hS hl hw
    refine lv_iload_n hx hb (qaa qfF 0 rfl) rfl (lv_at hl 3 rfl) ?_
    refine lv_aload_n hx hb (qaa qfF 1 rfl) rfl (lv_at hl 0 rfl) ?_
    refine va_get (D := (dC, dI)) (ci := 3) (v := .int jaC) (C := RX3) (T := TX3) (N := 11) hx hb hts qEZ hown hK hP 0 rfl rfl 4 (by decide) (hts _ qaiF) (fun _ h9 => h9) rfl (qaa qfF 2 rfl) ?_
    refine lv_icmp_ge (tgt := 88) hx hb (qaa qfF 3 rfl) (by decide) (fun c4 => ?_) (fun c4 => ?_)
    · have hw := hw.1 c4
      refine lv_iload_n hx hb (qaa qf3 15 rfl) rfl (lv_at hl 2 rfl) ?_
      exact ((W.iret (v := l2) hx hb hr (fun t ht hW => ⟨⟨l2, (jly), rfl, hw, by rw [ht]; exact hP, va_K.moved hW.alike hK, hD⟩, hS.F ht⟩) hS.2.2 (qaa qauP 0 rfl)))
    · have hw := hw.2 c4
      refine lv_iconst (v := 0) hx hb (qaa qfF 4 rfl) (by decide) ?_
      refine lv_istore (lv' := [(4, .int 0), (0, .ref a0), (1, .int l1), (2, .int l2), (3, .int l3)]) hx hb (qaa qfF 5 rfl) hl (by decide) rfl (fun ls hl => ?_)
      obtain ⟨n9, hw⟩ := hw
      exact qatg dC dI cyB cyI cyJ cyP a0 jlj jhn jhX ji2 jaO jmb jmc jkn jjZ jaC jaN jim jiL jjH Q (qAi jaC jaN jim jiL jjH Q n) ih C0 n9 _ _ _ jly l1 l2 l3 0 hP hD hS (lv_sub hl [1, 2, 3, 4, 0] rfl) hw
set_option maxHeartbeats 4000000 in
set_option maxRecDepth 100000 in
theorem qazf {p : Program} {l : Launch} {e : Env} {s : State} {m : MethodId} {args : Array Value} {below : List Frame} {meth : Method} {c : Code} {A : Nat → Prop} (dC : Nat → ClassId) (dI : Nat → Nat → Nat) (cyB cyI cyJ cyP : ClassId) (a0 jlj jhn jhX ji2 : Nat) (jaO jmb jmc jkn jjZ : Value) (jaC jaN : Int32) (jim jiL jjH : NI) (Q : Int32 → NI → Prop) (C0 : cfx p s m args meth c cX3_worstAt (some .int) wsX3_worstAt RX3 5 A (dC, dI) (kT cyB cyI cyJ cyP)) : ∀ (n : Nat) (H : Heap) (locs : List Loc) (ls : Array Slot) (jly : NI) (l1 l2 : Int32), va_P (dC, dI) vwCl (qpE a0 jhX ji2 jhn jlj jaC jaN jaO jmb jmc jkn jjZ jlj cyI jly jhn cyI jim jhX cyI jiL ji2 cyI jjH) H → va_D A (qpE a0 jhX ji2 jhn jlj jaC jaN jaO jmb jmc jkn jjZ jlj cyI jly jhn cyI jim jhX cyI jiL ji2 cyI jjH) → va_S A s.heap H locs → lv_has ls 5 [(0, .ref a0), (1, .int l1), (2, .int l2)] → qIR jaC jaN jim jiL jjH Q n jly l1 l2 → W p l e (headSpec wsX3_worstAt ({ frames := 2, cells := 0, slots := 0, locals := 43 })).room s m args below meth c H locs 0 0 (MQ below (va_Qi (fun (r : Int32) (u : NI) => Q r u) (cB (dC, dI) (kT cyB cyI cyJ cyP) A (fun u : NI => ((qpE a0 jhX ji2 jhn jlj jaC jaN jaO jmb jmc jkn jjZ jlj cyI u jhn cyI jim jhX cyI jiL ji2 cyI jjH) : va_W))) A) args s 0 0 A) (F0 m 2 ls []) := by
  obtain ⟨hx, hb, hr, hts, hown, hlocks, hml, hA, hK, hNw⟩ := id C0
  intro n
  induction n with
  | zero => intro H locs ls jly l1 l2 hP hD hS hl hw; exact False.elim hw
  | succ n ih =>
    intro H locs ls jly l1 l2 hP hD hS hl hw
    refine lv_iload_n hx hb (qaa qgJ 2 rfl) rfl (lv_at hl 2 rfl) ?_
    refine lv_bipush (v := 6) hx hb (qaa qgJ 3 rfl) (by decide) ?_
    refine lv_icmp_gt (tgt := 21) hx hb (qaa qgJ 4 rfl) (by decide) (fun c1 => ?_) (fun c1 => ?_)
    · have hw := hw.1 c1
      refine lv_iconst (v := 0) hx hb (qaa qgJ 12 rfl) (by decide) ?_
      refine lv_istore_n (lv' := [(2, .int 0), (0, .ref a0), (1, .int l1)]) hx hb (qaa qgJ 13 rfl) rfl hl (by decide) rfl (fun ls hl => ?_)
      refine lv_iconst (v := 0) hx hb (qaa qgJ 14 rfl) (by decide) ?_
      refine lv_istore_n (lv' := [(3, .int 0), (2, .int 0), (0, .ref a0), (1, .int l1)]) hx hb (qaa qgJ 15 rfl) rfl hl (by decide) rfl (fun ls hl => ?_)
      obtain ⟨n9, hw⟩ := hw
      exact qauw dC dI cyB cyI cyJ cyP a0 jlj jhn jhX ji2 jaO jmb jmc jkn jjZ jaC jaN jim jiL jjH Q C0 n9 _ _ _ jly l1 0 0 hP hD hS (lv_sub hl [2, 3, 1, 0] rfl) hw
    · have hw := hw.2 c1
      refine lv_aload_n hx hb (qaa qgJ 5 rfl) rfl (lv_at hl 0 rfl) ?_
      refine va_get (D := (dC, dI)) (ci := 3) (v := .ref jlj) (C := RX3) (T := TX3) (N := 11) hx hb hts qEZ hown hK hP 0 rfl rfl 3 (by decide) (hts _ qamo) (fun _ h9 => h9) rfl (qaa qgJ 6 rfl) ?_
      refine lv_iload_n hx hb (qaa qgJ 7 rfl) rfl (lv_at hl 2 rfl) ?_
      refine lv_iconst (v := 0) hx hb (qaa qgJ 8 rfl) (by decide) ?_
      obtain ⟨hi9, hw⟩ := hw
      refine va_iast hx hb hK hP hD hS 1 1 rfl rfl hi9 (qaa qgJ 9 rfl) (fun H locs hP hD hS => ?_)
      obtain ⟨f2, ef2⟩ : ∃ y : NI, y = upd jly l2.toNatClampNeg 0 := ⟨_, rfl⟩
      have hw := hw f2 ef2
      have hP : va_P (dC, dI) vwCl (qpE a0 jhX ji2 jhn jlj jaC jaN jaO jmb jmc jkn jjZ jlj cyI f2 jhn cyI jim jhX cyI jiL ji2 cyI jjH) H := by rw [ef2]; exact hP
      have hD : va_D A (qpE a0 jhX ji2 jhn jlj jaC jaN jaO jmb jmc jkn jjZ jlj cyI f2 jhn cyI jim jhX cyI jiL ji2 cyI jjH) := by rw [ef2]; exact hD
      obtain ⟨x3, ex3⟩ : ∃ y : Int32, y = l2 + 1 := ⟨_, rfl⟩
      have hw := hw x3 ex3
      refine lv_iinc (v := x3) (lv' := [(2, .int x3), (0, .ref a0), (1, .int l1)]) hx hb (qaa qgJ 10 rfl) hl (k := 2) rfl (by rw [ex3]; rfl) (by decide) rfl (fun ls hl => ?_)
      refine lv_goto (tgt := 2) hx hb (qaa qgJ 11 rfl) (by decide) ?_
      exact ih _ _ _ f2 l1 x3 hP hD hS (lv_sub hl [1, 2, 0] rfl) hw
set_option maxHeartbeats 4000000 in
set_option maxRecDepth 100000 in
theorem qaOw (l : Launch) (dC : Nat → ClassId) (dI : Nat → Nat → Nat) (cyB cyI cyJ cyP : ClassId) (a0 jlj jhn jhX ji2 sz : Nat) (jaO jmb jmc jkn jjZ : Value) (jaC jaN : Int32) (jim jiL jjH jly : NI) (p1 : Int32) {Q : Int32 → NI → Prop} (hw : qW6 jaC jaN jim jiL jjH jly p1 Q) : Met l yX3_worstAt wsX3_worstAt ({ frames := 2, cells := 0, slots := 0, locals := 43 }) (va_Pc [.ref a0, .int p1] (cPc (dC, dI) (kT cyB cyI cyJ cyP) (qpE a0 jhX ji2 jhn jlj jaC jaN jaO jmb jmc jkn jjZ jlj cyI jly jhn cyI jim jhX cyI jiL ji2 cyI jjH) sz)) (va_Qi (fun (r : Int32) (u : NI) => Q r u) (cB (dC, dI) (kT cyB cyI cyJ cyP) (va_A (qpE a0 jhX ji2 jhn jlj jaC jaN jaO jmb jmc jkn jjZ jlj cyI jly jhn cyI jim jhX cyI jiL ji2 cyI jjH) sz) (fun u : NI => ((qpE a0 jhX ji2 jhn jlj jaC jaN jaO jmb jmc jkn jjZ jlj cyI u jhn cyI jim jhX cyI jiL ji2 cyI jjH) : va_W))) (va_A (qpE a0 jhX ji2 jhn jlj jaC jaN jaO jmb jmc jkn jjZ jlj cyI jly jhn cyI jim jhX cyI jiL ji2 cyI jjH) sz)) 0 0 (va_A (qpE a0 jhX ji2 jhn jlj jaC jaN jaO jmb jmc jkn jjZ jlj cyI jly jhn cyI jim jhX cyI jiL ji2 cyI jjH) sz) := by
  refine Met.ofW (cc := cX3_worstAt) (maxL := 5) (ret := (some .int)) (by decide) rfl ?_
  intro p e s m args below meth c s₁ B hml hv
  obtain ⟨rfl, hsz, hP, hK, hD0, hNw⟩ := hv
  have hx := B.exec
  have hb := B.bytes
  have hr := B.returns
  have hts := atoms_spec (ws := wsX3_worstAt) B.pre
  have hown : s.vm.findClass RX3 = some m.cls := findClass_of_methodNamed B.named
  have hlocks := B.notSynchronized
  subst hsz
  have hD := hD0.self (sz := s.heap.size)
  generalize hAe : va_A (qpE a0 jhX ji2 jhn jlj jaC jaN jaO jmb jmc jkn jjZ jlj cyI jly jhn cyI jim jhX cyI jiL ji2 cyI jjH) s.heap.size = A at hD ⊢
  have hA : ∀ q : Nat, s.heap.size ≤ q → A q := fun q h => by rw [← hAe]; exact Or.inr h
  have hS : va_S A s.heap s.heap [] := va_S.rf
  have hP : va_P (dC, dI) vwCl (qpE a0 jhX ji2 jhn jlj jaC jaN jaO jmb jmc jkn jjZ jlj cyI jly jhn cyI jim jhX cyI jiL ji2 cyI jjH) s.heap := hP
  have hl := lv_entry ([.ref a0, .int p1]) (n := 5) (nbq rfl)
  rw [lg_entry_eq]
  generalize (lg_sl ([.ref a0, .int p1]) ++ List.replicate (5 - (lg_sl ([.ref a0, .int p1])).length) Slot.unset).toArray = ls at hl ⊢
  have hl : lv_has ls 5 [(0, .ref a0), (1, .int p1)] := hl
  have C0 : cfx p s m _ meth c cX3_worstAt (some .int) wsX3_worstAt RX3 5 A (dC, dI) (kT cyB cyI cyJ cyP) := ⟨hx, hb, hr, hts, hown, hlocks, hml, hA, hK, hNw⟩
  clear hAe
  obtain ⟨H, hH⟩ : ∃ H, H = s.heap := ⟨_, rfl⟩
  rw [← hH] at hP ⊢
  have hS : va_S A s.heap H [] := by rw [hH]; exact va_S.rf
  have hS := hS
  refine lv_iconst (v := 0) hx hb (qaa qgJ 0 rfl) (by decide) ?_
  refine lv_istore_n (lv' := [(2, .int 0), (0, .ref a0), (1, .int p1)]) hx hb (qaa qgJ 1 rfl) rfl hl (by decide) rfl (fun ls hl => ?_)
  obtain ⟨n9, hw⟩ := hw
  exact qazf dC dI cyB cyI cyJ cyP a0 jlj jhn jhX ji2 jaO jmb jmc jkn jjZ jaC jaN jim jiL jjH Q C0 n9 _ _ _ jly p1 0 hP hD hS (lv_sub hl [1, 2, 0] rfl) hw
