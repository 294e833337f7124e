/** The document's sentences on what is asked that name an edge, in its order, each with a test of its own. */
public final class EdgesOfAskingTest {
    private static final Check CHECK = new Check();
    private static final int NONE = MarchHares.NONE;
    // Form 0 is not safe, form 1 is: the fox is far by 0 and by 9.
    private static final String BOTH = "form 0 0;form 9 0;fox 0 0;";
    private static final int[] FAR_OFF = {Integer.MIN_VALUE, Integer.MAX_VALUE};

    private static int yes(boolean is) {
        return is ? 1 : 0;
    }

    /** Hares 0 and 1 are caught by a stroke; 2 sits in the form that is not safe, 3 in the safe one. */
    private static MarchHares withCaught() {
        MarchHares x = Check.of(BOTH + "hare 0 5;hare 0 4;hare 0 3;hare 1 2;debt 1 2 8;debt 2 0 7;debt 2 3 6;debt 0 1 5;");
        Check.law(x, "9");
        Check.work(x, "again 30[day;];box 0 1;day;");
        return x;
    }

    private static MarchHares allCaught() {
        MarchHares x = Check.of(BOTH + "hare 0 5;hare 0 4;");
        Check.work(x, "again 30[day;];box 0 1;day;");
        return x;
    }

    private static MarchHares inYear40(String text) {
        MarchHares x = Check.of(text);
        for (int work = 0; work < 6; work++) {
            Check.work(x, "again 40[day;day;day;day;day;];");
        }
        Check.work(x, "again 40[day;];day;day;day;day;day;day;");
        return x;
    }

    private static String stateOf(MarchHares x) {
        StringBuilder out = new StringBuilder();
        for (int what = 0; what <= 11; what++) {
            out.append(x.told(what)).append(' ');
        }
        for (int hare = 0; hare < x.told(1); hare++) {
            for (int what = 0; what <= 7; what++) {
                out.append(x.hare(hare, what)).append(' ');
            }
            for (int other = 0; other < x.told(1); other++) {
                out.append(x.debt(hare, other)).append(' ');
            }
        }
        for (int what = 0; what <= 2; what++) {
            out.append(x.count(what)).append(' ');
        }
        return out.append(x.fault()).append(' ').append(x.status(0)).append(' ').append(x.status(1)).toString();
    }

    private static void askAll(MarchHares x) {
        x.would(9, 0, 0, 0, 0, 31, 0, 0);
        x.can(0, 1);
        x.ahead(99, 1);
        x.hops(2, 1);
        x.seats();
        x.seat(0);
        x.ring();
        x.ringed(1);
        x.bouts(2);
        x.fits(0);
        x.look(0);
        x.watch(5);
        x.few(12, 6, 8, 0);
        x.road(1, 1, 2);
        x.clover(2, 15, 5);
        x.strongest(0);
        x.ties(2, 0);
        x.refuge(0, 0);
        x.range(2);
        x.march(1, 96, 0);
        x.span(1, 20, 96, 2, 2);
    }

    private static void nothingChanged() {
        CHECK.says("Asked, nothing stays changed; DAYS go by as by day");
        MarchHares x = withCaught();
        Check.book(x, "0 1;");
        Check.work(x, "day;leap 2 1;box 2 3;leap 2 1;");
        x.feed(1, 2, 3, 4, 5);
        x.image();
        String ahead = stateOf(x);
        askAll(x);
        CHECK.due("alike: " + ahead + ", " + stateOf(x), yes(ahead.equals(stateOf(x))), 1);
        // Days by asking and by work.
        MarchHares y = Check.of(BOTH + "hare 0 5;hare 0 4;hare 0 3;hare 1 3;debt 1 2 9;debt 2 3 8;");
        Check.work(y, "again 28[day;];box 0 1;");
        for (int days = 0; days <= 3; days++) {
            CHECK.due("day", y.ahead(days, 0), days == 3 ? 1 : 29 + days);
            CHECK.due("caught", y.ahead(days, 1), days == 3 ? 3 : 0);
            CHECK.due("debts", y.ahead(days, 2), days == 3 ? 8 : 17);
        }
        Check.work(y, "day;day;day;");
        CHECK.due("caught by work", y.told(5), 3);
        CHECK.due("debts by work", y.told(8), 8);
    }

    private static void beyondYear40() {
        CHECK.says("(beyond YEAR 40, too).");
        String text = "form 0 0;form 0 1;hare 0 5;hare 1 4;hare 0 3;fox 0 0;";
        MarchHares fresh = Check.of(text);
        MarchHares old = inYear40(text);
        CHECK.due("year 40", old.told(4), 40);
        CHECK.due("in 30 days", old.ahead(30, 0), 31);
        CHECK.due("in 31 days", old.ahead(31, 0), 1);
        CHECK.due("in 99 days", old.ahead(99, 0), 7);
        CHECK.due("none is caught by then", old.told(5), 0);
        int caught = 0;
        for (int seed = 0; seed < 20; seed++) {
            for (int what = 0; what < 4; what++) {
                CHECK.due("as in year 0", old.march(seed, 96, what), fresh.march(seed, 96, what));
            }
            caught |= old.march(seed, 96, 1);
        }
        CHECK.due("some are caught in year 41 or later", yes(caught > 0), 1);
        CHECK.due("as in year 0", old.span(5, 20, 62, 2, 1), fresh.span(5, 20, 62, 2, 1));
    }

    private static void hops() {
        CHECK.says("HOPS of a HARE to a FORM: the fewest leaps, each by its LEAP as now, all else as it is; "
                + "NONE (CAUGHT ones, too).");
        String line = "form 0 0;form 4 0;form 8 0;form 12 0;form 16 0;form 20 0;form 24 0;form 28 0;";
        MarchHares x = Check.of(line + "hare 0 5;hare 0 5;");
        Check.law(x, "4");
        for (int form = 0; form < 8; form++) {
            CHECK.due("one by one to " + form, x.hops(0, form), form);
        }
        Check.law(x, "8");
        CHECK.due("two by two", x.hops(0, 7), 4);
        Check.law(x, "3");
        CHECK.due("too far", x.hops(0, 1), NONE);
        CHECK.due("where it sits", x.hops(0, 0), 0);
        // It would get shorter, or longer, by leaping and by leaving the other; as now it is 4.
        Check.law(x, "4-leaps");
        CHECK.due("shorter by leaping", x.hops(0, 7), 7);
        Check.law(x, "3+others");
        CHECK.due("shorter by leaving", x.hops(0, 7), 7);
        Check.law(x, "4+leaps*9");
        CHECK.due("longer by leaping", x.hops(0, 2), 2);
        MarchHares gap = Check.of("form 0 0;form 1 0;form 9 0;form 10 0;hare 3 1;");
        Check.law(gap, "7");
        CHECK.due("a gap of 8", gap.hops(0, 0), NONE);
        CHECK.due("ahead of it", gap.hops(0, 2), 1);
        MarchHares caught = withCaught();
        CHECK.due("a caught one", caught.hops(0, 1), NONE);
        CHECK.due("where it sat", caught.hops(0, 0), NONE);
        CHECK.due("another one", caught.hops(2, 1), 1);
    }

    private static void hopsPromised() {
        CHECK.says("`int hops(int hare, int form) throws NoSuchElementException`: HOPS (0: it sits there).");
        MarchHares x = Check.of("form 0 0;form 0 0;hare 1 1;");
        Check.law(x, "0");
        CHECK.due("it sits there", x.hops(0, 1), 0);
        CHECK.due("a form at the same place", x.hops(0, 0), 1);
        for (int wrong : new int[] {-1, 1, FAR_OFF[0], FAR_OFF[1]}) {
            CHECK.noSuch("hare " + wrong, () -> x.hops(wrong, 0));
        }
        for (int wrong : new int[] {-1, 2, FAR_OFF[0], FAR_OFF[1]}) {
            CHECK.noSuch("form " + wrong, () -> x.hops(0, wrong));
        }
        CHECK.due("counted", x.status(0), 8);
    }

    private static void seatsAre(MarchHares x, int... given) {
        int seated = 0;
        for (int hare = 0; hare < given.length; hare++) {
            CHECK.due("seat of " + hare, x.seat(hare), given[hare]);
            seated += given[hare] == NONE ? 0 : 1;
        }
        CHECK.due("seats", x.seats(), seated);
    }

    private static void seats() {
        CHECK.says("SEATS: of all ways to give HARES that are not CAUGHT unlike SAFE FORMS, each one it sits in, "
                + "or could leap to now, or none, that by which most have one");
        MarchHares x = Check.of("form 0 0;form 0 1;form 0 20;hare 0 5;hare 1 5;");
        Check.law(x, "0");
        seatsAre(x, 0, 1);
        // Hare 0 could have form 0 or 1, hare 1 form 0 alone.
        MarchHares y = Check.of("form 0 0;form 0 5;hare 0 5;hare 0 1;");
        Check.law(y, "strong");
        seatsAre(y, 1, 0);
        // Exactly as far, and one too far.
        MarchHares z = Check.of("form 0 0;form 0 9;fox 0 0;hare 0 9;hare 0 8;");
        Check.law(z, "strong");
        seatsAre(z, 1, NONE);
        Check.law(z, "17-strong");
        seatsAre(z, NONE, 1);
        // None is safe; then one that nobody sits in, nor could leap to.
        seatsAre(Check.of("form 0 0;form 0 1;fox 0 0;hare 0 9;hare 1 9;"), NONE, NONE);
        seatsAre(Check.of("form 0 0;form 30 30;fox 0 0;hare 0 9;"), NONE);
        seatsAre(withCaught(), NONE, NONE, 1, NONE);
        seatsAre(allCaught(), NONE, NONE);
        MarchHares six = Check.of("form 0 0;form 0 1;form 0 2;form 0 3;form 0 4;form 0 5;form 0 6;form 0 7;"
                + "hare 7 5;hare 7 4;hare 7 3;hare 7 2;hare 7 1;hare 7 1;");
        Check.law(six, "7-hare");
        // Hare 5 may have 5 to 7, hare 4 has 4 to 7, and so on; hare 0 all.
        seatsAre(six, 0, 1, 2, 3, 4, 5);
        Check.law(six, "0");
        seatsAre(six, 7, NONE, NONE, NONE, NONE, NONE);
    }

    private static void seatsAnew() {
        CHECK.says("that by which most have one");
        // What was found for many is nothing to few.
        MarchHares x = Check.of("form 0 0;form 0 1;form 0 2;hare 0 9;hare 0 9;hare 0 9;");
        seatsAre(x, 0, 1, 2);
        Check.down(x, "form 0 0;form 0 1;form 0 2;hare 2 1;");
        Check.law(x, "0");
        seatsAre(x, 2);
        Check.down(x, "form 0 0;");
        CHECK.due("no hares", x.seats(), 0);
        Check.down(x, "form 0 0;form 0 1;form 0 2;hare 0 9;hare 0 9;hare 0 9;");
        seatsAre(x, 0, 1, 2);
    }

    private static void seatsFirst() {
        CHECK.says("of alike ways the first (HARE by HARE the least FORM, none last).");
        MarchHares x = Check.of("form 0 0;form 0 1;hare 1 5;hare 1 5;");
        Check.law(x, "1");
        seatsAre(x, 0, 1);
        MarchHares y = Check.of("form 0 0;hare 0 1;hare 0 1;hare 0 1;");
        seatsAre(y, 0, NONE, NONE);
        // Hare 0 may have form 0, hare 1 both, hare 2 form 1: two of them.
        MarchHares z = Check.of("form 0 0;form 0 5;hare 0 1;hare 0 5;hare 1 1;");
        Check.law(z, "strong");
        seatsAre(z, 0, 1, NONE);
    }

    private static void seatsCounted() {
        CHECK.says("SEATS: how many HARES have one.");
        CHECK.due("all six", Check.of("form 0 0;form 0 1;form 0 2;form 0 3;form 0 4;form 0 5;" + "hare 0 9;".repeat(6)).seats(), 6);
        CHECK.due("as many as forms", Check.of("form 0 0;form 0 1;" + "hare 0 9;".repeat(6)).seats(), 2);
        CHECK.due("none is safe", Check.of("form 0 0;fox 0 0;hare 0 9;").seats(), 0);
        CHECK.due("all are caught", allCaught().seats(), 0);
    }

    private static void seatsPromised() {
        CHECK.says("The FORM of a HARE by SEATS; NONE.");
        MarchHares x = Check.of("form 0 0;hare 0 1;hare 0 1;");
        CHECK.due("its form", x.seat(0), 0);
        CHECK.due("none", x.seat(1), NONE);
        for (int wrong : new int[] {-1, 2, FAR_OFF[0], FAR_OFF[1]}) {
            CHECK.noSuch("hare " + wrong, () -> x.seat(wrong));
        }
        CHECK.due("no hares", Check.of("form 0 0;").seats(), 0);
        CHECK.due("no down", new MarchHares().seats(), 0);
    }

    private static void ringIs(MarchHares x, int length, int... row) {
        CHECK.due("ring", x.ring(), length);
        for (int k = 0; k < row.length; k++) {
            CHECK.due("ringed " + k, x.ringed(k), row[k]);
        }
        CHECK.due("ringed beyond", x.ringed(row.length), NONE);
    }

    private static void rings() {
        CHECK.says("RING: of all rows of all FORMS, FORM 0 first, that by which FAR from one to the next, "
                + "and from the last to the first, together is least; of alike rows the first.");
        ringIs(Check.of("form 5 5;form 0 0;form 9 0;"), 10 + 9 + 9, 0, 1, 2);
        ringIs(Check.of("form 0 0;form 9 9;form 0 9;form 9 0;"), 36, 0, 2, 1, 3);
        ringIs(Check.of("form 3 3;form 3 3;form 3 3;form 3 3;"), 0, 0, 1, 2, 3);
        // On a line all rows that go out and come back are alike: the first of them goes out by 1.
        ringIs(Check.of("form 0 0;form 20 0;form 10 0;form 30 0;"), 60, 0, 1, 3, 2);
        ringIs(Check.of("form 0 0;form 30 30;form 10 0;form 30 10;form 0 30;form 20 0;form 30 0;form 0 10;"), 120,
                0, 2, 5, 6, 3, 1, 4, 7);
    }

    private static void ringsPromised() {
        CHECK.says("RING: FAR together (0: fewer than two FORMS).");
        ringIs(Check.of("form 3 4;form 5 9;"), 14, 0, 1);
        ringIs(Check.of("form 0 0;form 30 30;"), 120, 0, 1);
        ringIs(Check.of("form 3 4;"), 0, 0);
        ringIs(new MarchHares(), 0);
        MarchHares x = Check.of("form 0 0;form 9 9;form 0 9;form 9 0;");
        ringIs(x, 36, 0, 2, 1, 3);
        Check.down(x, "form 3 4;");
        ringIs(x, 0, 0);
        Check.down(x, "form 0 0;form 9 9;form 0 9;form 9 0;");
        ringIs(x, 36, 0, 2, 1, 3);
        Check.down(x, "");
        ringIs(x, 0);
    }

    private static void ringedPromised() {
        CHECK.says("The k-th FORM of RING (from 0 on); NONE: there are not so many. IllegalArgumentException: k below 0.");
        MarchHares x = Check.of("form 0 0;form 9 9;");
        CHECK.due("the first", x.ringed(0), 0);
        CHECK.due("the last", x.ringed(1), 1);
        CHECK.due("one more", x.ringed(2), NONE);
        CHECK.due("the eighth", x.ringed(7), NONE);
        CHECK.due("the ninth", x.ringed(8), NONE);
        CHECK.due("far off", x.ringed(Integer.MAX_VALUE), NONE);
        CHECK.illegal("-1", () -> x.ringed(-1));
        CHECK.illegal("far below", () -> x.ringed(Integer.MIN_VALUE));
        CHECK.illegal("-1 of none", () -> new MarchHares().ringed(-1));
        CHECK.due("counted", x.status(1), 2);
    }

    private static void boutsAre(MarchHares x, int... due) {
        for (int hare = 0; hare < due.length; hare++) {
            CHECK.due("bouts " + hare, x.bouts(hare), due[hare]);
        }
    }

    private static void bouts() {
        CHECK.says("BOUTS of a HARE: in how many orders of all HARES that are not CAUGHT it is the last who stands");
        boutsAre(withCaught(), 0, 0, 2, 0);
        boutsAre(Check.of("form 0 0;form 9 9;hare 0 1;hare 1 2;"), 0, 2);
        boutsAre(Check.of("form 0 0;hare 0 1;hare 0 1;hare 0 1;hare 0 1;hare 0 1;hare 0 9;"), 0, 0, 0, 0, 0, 720);
    }

    private static void boutsInOrder() {
        CHECK.says("the first two box, then who wins and the next one, and so on");
        // 3 and 2 and 2: hare 0 beats the one as 3, the other as 2, for it stood already; behind both it beats 1.
        boutsAre(Check.of("form 0 0;hare 0 3;hare 0 2;hare 0 2;"), 6, 0, 0);
        // 2 and 2 and 2: who comes last meets a winner by 1 less.
        boutsAre(Check.of("form 0 0;hare 0 2;hare 0 2;hare 0 2;"), 2, 2, 2);
        // 3 and 3 and 1: of the strong ones the first, if both box at once, and else the one behind the weak one.
        boutsAre(Check.of("form 0 0;hare 0 3;hare 0 3;hare 0 1;"), 3, 3, 0);
    }

    private static void boutsByStrength() {
        CHECK.says("(STRONG as now at first, who stood already as A; who wins is STRONG by 1 less in the next, 0 at least; "
                + "one alone stands).");
        // Alike ones: who stood already wins; by 1 less it loses to the third.
        boutsAre(Check.of("form 0 0;hare 0 1;hare 0 1;"), 1, 1);
        boutsAre(Check.of("form 0 0;hare 0 1;hare 0 1;hare 0 1;"), 2, 2, 2);
        // Hare 0 beats one as 2, and the other as 1, for it stood already.
        boutsAre(Check.of("form 0 0;hare 0 2;hare 0 1;hare 0 1;"), 6, 0, 0);
        // Hare 0 as 3, 2, then 1, which loses: it must not be one of the first two.
        boutsAre(Check.of("form 0 0;hare 0 3;hare 0 2;hare 0 2;hare 0 2;"), 12, 4, 4, 4);
        // STRONG as now: 1, 0, 0, 0; at less than 0 hare 0 would lose the third bout.
        MarchHares weak = Check.of("form 0 0;hare 0 1;hare 0 1;hare 0 1;hare 0 1;");
        Check.work(weak, "box 0 1;box 0 2;box 0 3;");
        boutsAre(weak, 24, 0, 0, 0);
        boutsAre(Check.of("form 0 0;hare 0 1;"), 1);
        // Two of three are caught: the third alone stands.
        MarchHares alone = Check.of(BOTH + "hare 0 5;hare 0 4;hare 1 1;");
        Check.work(alone, "again 30[day;];box 0 1;day;");
        boutsAre(alone, 0, 0, 1);
    }

    private static void boutsPromised() {
        CHECK.says("`int bouts(int hare) throws NoSuchElementException`: BOUTS (0: CAUGHT).");
        boutsAre(allCaught(), 0, 0);
        MarchHares x = Check.of("form 0 0;hare 0 1;");
        for (int wrong : new int[] {-1, 1, FAR_OFF[0], FAR_OFF[1]}) {
            CHECK.noSuch("hare " + wrong, () -> x.bouts(wrong));
        }
    }

    private static void fitsAre(MarchHares x, String book, int many, int first) {
        CHECK.due("book " + book, yes(Check.book(x, book) >= 0), 1);
        CHECK.due("fits by " + book, x.fits(0), many);
        CHECK.due("the first by " + book, x.fits(1), first);
    }

    private static void fits() {
        CHECK.says("FITS by BOOK: pairs of a HARE that is not CAUGHT and a FORM by which, had that one leapt there now "
                + "(whether it could or not; where it sits, too), all lines would be right (CAUGHT ones sit nowhere)");
        MarchHares x = Check.of("form 0 0;form 30 30;hare 0 1;hare 0 1;");
        fitsAre(x, "", 4, 0);
        fitsAre(x, "0 2;", 2, 0);
        fitsAre(x, "0 1;", 2, 1);
        fitsAre(x, "1 1;0 1;", 2, 1);
        fitsAre(x, "1 1;0 2;", 0, NONE);
        fitsAre(x, "0 6;", 0, NONE);
        fitsAre(x, "1 2;", 0, NONE);
        MarchHares caught = withCaught();
        fitsAre(caught, "", 4, 20);
        fitsAre(caught, "0 1;1 1;", 2, 20);
        fitsAre(caught, "0 0;1 2;", 1, 21);
        fitsAre(caught, "0 2;", 1, 30);
        fitsAre(caught, "0 3;", 0, NONE);
    }

    private static void fitsFirst() {
        CHECK.says("how many, the first (by HARE, then FORM).");
        MarchHares x = Check.of("form 0 0;form 0 0;form 0 0;hare 2 1;hare 1 1;hare 0 1;");
        fitsAre(x, "", 9, 0);
        // Hare 0 alone sits in form 2, hare 1 in form 1, hare 2 in form 0.
        fitsAre(x, "2 0;", 2, 0);
        fitsAre(x, "2 0;0 1;", 1, 1);
        fitsAre(x, "2 1;", 5, 2);
        fitsAre(x, "0 0;", 2, 21);
        fitsAre(x, "1 0;", 2, 10);
    }

    private static void fitsPromised() {
        CHECK.says("FITS: 0 how many, 1 the first (10 times the HARE, and the FORM; NONE).");
        MarchHares x = Check.of("form 0 0;".repeat(8) + "hare 0 1;".repeat(5) + "hare 6 1;");
        fitsAre(x, "7 1;6 0;", 1, 57);
        fitsAre(x, "", 48, 0);
        fitsAre(x, "0 4;1 1;", 5, 1);
        fitsAre(allCaught(), "", 0, NONE);
        fitsAre(Check.of("form 0 0;"), "0 0;", 0, NONE);
        fitsAre(new MarchHares(), "", 0, NONE);
        for (int what : new int[] {-1, 2, FAR_OFF[0], FAR_OFF[1]}) {
            CHECK.illegal("what " + what, () -> x.fits(what));
        }
    }

    private static void lookIs(MarchHares x, String book, int form, int left) {
        CHECK.due("book " + book, yes(Check.book(x, book) >= 0), 1);
        CHECK.due("look by " + book, x.look(0), form);
        CHECK.due("left by " + book, x.look(1), left);
    }

    private static void looks() {
        CHECK.says("LOOK: the FORM in no line by which, however many sit there then, "
                + "fewest such pairs are left at the worst, of these the first.");
        MarchHares x = Check.of("form 0 0;form 5 5;hare 0 1;hare 0 1;");
        lookIs(x, "", 0, 2);
        lookIs(x, "0 2;", 1, 2);
        // By form 0: 4 of nine pairs leave two there; by form 1 five leave one; by form 2 six leave none.
        MarchHares y = Check.of("form 0 0;form 0 0;form 0 0;hare 0 1;hare 0 1;hare 1 1;");
        lookIs(y, "", 0, 4);
        lookIs(y, "0 2;", 1, 3);
        lookIs(y, "0 1;", 1, 2);
        lookIs(y, "1 1;", 0, 3);
        lookIs(y, "2 0;0 3;", 1, 1);
        // The same from the other end: the last form is the best.
        MarchHares z = Check.of("form 0 0;form 0 0;form 0 0;hare 2 1;hare 2 1;hare 1 1;");
        lookIs(z, "", 2, 4);
        lookIs(z, "2 2;", 0, 3);
    }

    private static void looksOfSix() {
        CHECK.says("fewest such pairs are left at the worst, of these the first.");
        // All six sit in one form: by each form six pairs of one kind, and six of the other.
        MarchHares six = Check.of("form 0 0;form 0 0;" + "hare 0 1;".repeat(6));
        for (int time = 0; time < 3; time++) {
            lookIs(six, "", 0, 6);
        }
        lookIs(six, "1 0;", 0, 6);
        // Hares 2 and 3 are free, in forms 0 and 1: pairs leave 1 1, 0 2, 2 0, 1 1.
        MarchHares caught = withCaught();
        lookIs(caught, "", 0, 2);
        lookIs(caught, "0 1;", 1, 2);
        lookIs(caught, "0 2;", 1, 1);
        // Many hares first, then few.
        Check.down(six, "form 0 0;form 0 0;hare 0 1;");
        lookIs(six, "", 0, 1);
    }

    private static void looksPromised() {
        CHECK.says("LOOK: 0 the FORM, 1 how many are left at the worst; NONE both: all FORMS are in lines, or there are none.");
        MarchHares x = Check.of("form 0 0;form 5 5;hare 0 1;");
        lookIs(x, "0 1;1 0;", NONE, NONE);
        lookIs(x, "0 0;1 0;", NONE, NONE);
        lookIs(x, "0 6;", 1, 0);
        lookIs(x, "1 6;", 0, 0);
        lookIs(Check.of("form 0 0;"), "", 0, 0);
        lookIs(new MarchHares(), "", NONE, NONE);
        for (int what : new int[] {-1, 2, FAR_OFF[0], FAR_OFF[1]}) {
            CHECK.illegal("what " + what, () -> x.look(what));
        }
    }

    private static void watches() {
        CHECK.says("WATCH by d: the fewest FORMS by which each FORM is one of them, or FAR from one by d or less; "
                + "of as few the least bits.");
        MarchHares x = Check.of("form 0 0;form 3 0;form 6 0;");
        CHECK.due("watch 2", x.watch(2), 7);
        CHECK.due("watch 3", x.watch(3), 2);
        CHECK.due("watch 5", x.watch(5), 2);
        CHECK.due("watch 6: alike ones", x.watch(6), 1);
        CHECK.due("two and two", Check.of("form 0 0;form 0 1;form 20 0;form 20 1;").watch(1), 5);
        CHECK.due("at one place", Check.of("form 1 1;form 1 1;").watch(0), 1);
        // Form 2 sees 0 and 1, and 3 sees 4 and 5: 0 and 5 see none but themselves.
        CHECK.due("two in the middle", Check.of("form 0 0;form 2 0;form 1 0;form 20 0;form 19 0;form 21 0;").watch(1), 4 + 8);
    }

    private static void watchesPromised() {
        CHECK.says("WATCH by d (0 to 60), as bits.");
        MarchHares x = Check.of("form 0 0;form 30 30;");
        CHECK.due("watch 0", x.watch(0), 3);
        CHECK.due("watch 59", x.watch(59), 3);
        CHECK.due("watch 60", x.watch(60), 1);
        CHECK.due("no forms", new MarchHares().watch(60), 0);
        CHECK.due("eight", Check.of("form 0 0;form 0 9;form 9 0;form 9 9;form 20 0;form 0 20;form 20 20;form 30 30;").watch(0),
                255);
        for (int wrong : new int[] {-1, 61, FAR_OFF[0], FAR_OFF[1]}) {
            CHECK.illegal("d " + wrong, () -> x.watch(wrong));
        }
    }

    private static void fewIs(int n, int k, int q, long above, long below) {
        MarchHares x = new MarchHares();
        String what = "few of " + n + ", " + k + ", " + q;
        CHECK.due(what + ", above", x.few(n, k, q, 0), above);
        CHECK.due(what + ", below", x.few(n, k, q, 1), below);
    }

    private static void few() {
        CHECK.says("FEW of n, k, q: each of n is seen by q of 16, each by itself: how likely k are seen, or fewer.");
        fewIs(4, 2, 8, 11, 16);
        fewIs(4, 0, 8, 1, 16);
        fewIs(2, 1, 4, 15, 16);
        fewIs(2, 0, 4, 9, 16);
        fewIs(3, 2, 2, 511, 512);
        fewIs(12, 6, 8, 1255, 2048);
    }

    private static void fewPromised() {
        CHECK.says("FEW of n (0 to 12), k (0 to 12), q (0 to 16): above (part 0), below (part 1), in least terms.");
        fewIs(0, 0, 0, 1, 1);
        fewIs(0, 12, 16, 1, 1);
        fewIs(12, 12, 16, 1, 1);
        fewIs(12, 12, 7, 1, 1);
        fewIs(5, 12, 7, 1, 1);
        fewIs(12, 0, 0, 1, 1);
        fewIs(12, 0, 16, 0, 1);
        fewIs(12, 11, 16, 0, 1);
        fewIs(1, 0, 16, 0, 1);
        fewIs(1, 0, 8, 1, 2);
        fewIs(12, 0, 1, 129746337890625L, 281474976710656L);
        fewIs(12, 11, 15, 151728638820031L, 281474976710656L);
        fewIs(12, 11, 1, 281474976710655L, 281474976710656L);
        MarchHares x = new MarchHares();
        int[][] wrong = {{-1, 0, 0, 0}, {13, 0, 0, 0}, {0, -1, 0, 0}, {0, 13, 0, 0}, {0, 0, -1, 0}, {0, 0, 17, 0},
            {0, 0, 0, -1}, {0, 0, 0, 2}};
        for (int[] w : wrong) {
            CHECK.illegal("few", () -> x.few(w[0], w[1], w[2], w[3]));
        }
        CHECK.due("counted", x.status(1), wrong.length);
    }

    private static void roadIs(int v, int w, int rests, int first, int together) {
        MarchHares x = new MarchHares();
        String what = "road by " + v + ", " + w;
        CHECK.due(what + ", rests", x.road(v, w, 0), rests);
        CHECK.due(what + ", the first", x.road(v, w, 1), first);
        CHECK.due(what + ", together", x.road(v, w, 2), together);
    }

    private static void roads() {
        CHECK.says("ROAD of two by v, w: each runs straight, or turns: both turn: each has v; both run: each has 0 less w; "
                + "one turns: it has 0, the other one v and w; RESTS: neither would have more by the other thing.");
        roadIs(3, 5, 2, 1, 8);
        roadIs(0, 1, 2, 1, 1);
        // With w 0 nothing is lost by running, and nothing won: alike is no more.
        roadIs(5, 0, 4, 0, 0);
        roadIs(0, 0, 4, 0, 0);
    }

    private static void roadsPromised() {
        CHECK.says("ROAD of two by v, w (0 to 99): 0 how many RESTS, 1 the first (10 times what the one does, 0 it runs, "
                + "1 it turns, and the other one; NONE), 2 what both have by it together (0 without).");
        roadIs(99, 99, 2, 1, 198);
        roadIs(99, 1, 2, 1, 100);
        roadIs(99, 0, 4, 0, 0);
        roadIs(0, 99, 2, 1, 99);
        MarchHares x = new MarchHares();
        int[][] wrong = {{-1, 0, 0}, {100, 0, 0}, {0, -1, 0}, {0, 100, 0}, {0, 0, -1}, {0, 0, 3}};
        for (int[] w : wrong) {
            CHECK.illegal("road", () -> x.road(w[0], w[1], w[2]));
        }
        CHECK.due("counted", x.status(1), wrong.length);
    }

    private static void clovers() {
        CHECK.says("CLOVER of n among told HARES (bits) by what they are owed: levelled: no more than that each, "
                + "no more than a bound, the greatest by which no more than n are given (all, if they are no more).");
        MarchHares x = Check.of("form 0 0;hare 0 1;hare 0 1;hare 0 1;hare 0 1;"
                + "debt 3 0 4;debt 3 1 10;debt 0 2 20;debt 1 2 5;");
        int[][] due = {{0, 0, 0, 0}, {2, 0, 0, 0}, {3, 1, 1, 1}, {11, 3, 3, 3}, {12, 4, 4, 4}, {13, 4, 4, 4},
            {14, 4, 5, 5}, {24, 4, 10, 10}, {25, 4, 10, 11}, {38, 4, 10, 24}, {39, 4, 10, 25}, {40, 4, 10, 25}};
        for (int[] row : due) {
            for (int hare = 0; hare < 3; hare++) {
                CHECK.due("clover of " + row[0] + " for " + hare, x.clover(hare, 15, row[0]), row[hare + 1]);
            }
            CHECK.due("owed nothing", x.clover(3, 15, row[0]), 0);
        }
        CHECK.due("one alone", x.clover(2, 4, 24), 24);
        CHECK.due("two alone", x.clover(2, 6, 24), 14);
        MarchHares most = Check.of("form 0 0;" + "hare 0 1;".repeat(6)
                + "debt 0 5 99;debt 1 5 99;debt 2 5 99;debt 3 5 99;debt 4 5 99;");
        CHECK.due("494 of 495", most.clover(5, 63, 494), 494);
        CHECK.due("495 of 495", most.clover(5, 63, 495), 495);
        CHECK.due("the most that can be owed", most.clover(5, 63, 999), 495);
    }

    private static void cloversPromised() {
        CHECK.says("What a HARE gets of n (0 to 999) by CLOVER among told HARES (0, if it is none of them). "
                + "IllegalArgumentException: bits of no HARES.");
        MarchHares x = Check.of("form 0 0;hare 0 1;hare 0 1;debt 0 1 5;debt 1 0 5;");
        CHECK.due("it is one of them", x.clover(1, 2, 999), 5);
        CHECK.due("it is none of them", x.clover(0, 2, 999), 0);
        CHECK.due("no hares told", x.clover(0, 0, 999), 0);
        CHECK.due("none given", x.clover(0, 3, 0), 0);
        for (int bits : new int[] {4, 5, 64, -1, FAR_OFF[0], FAR_OFF[1]}) {
            CHECK.illegal("bits " + bits, () -> x.clover(0, bits, 5));
        }
        for (int n : new int[] {-1, 1000, FAR_OFF[0], FAR_OFF[1]}) {
            CHECK.illegal("n " + n, () -> x.clover(0, 3, n));
        }
        for (int hare : new int[] {-1, 2, FAR_OFF[0], FAR_OFF[1]}) {
            CHECK.noSuch("hare " + hare, () -> x.clover(hare, 3, 5));
            CHECK.noSuch("hare " + hare + " ahead of bits and n", () -> x.clover(hare, 4, 1000));
        }
        CHECK.noSuch("without hares", () -> new MarchHares().clover(0, 0, 0));
        MarchHares caught = withCaught();
        CHECK.due("a caught one is owed nothing", caught.clover(0, 15, 999), 0);
        CHECK.due("another one", caught.clover(3, 15, 999), 6);
    }

    private static void marchIs(MarchHares x, int seed, int days, int... due) {
        for (int what = 0; what < due.length; what++) {
            CHECK.due("march " + seed + ", " + days + ", " + what, x.march(seed, days, what), due[what]);
        }
    }

    private static void marches() {
        CHECK.says("A MARCH by a SEED: for so many DAYS: DRAW by how many HARES, by how many FORMS: leap (if it can be done); "
                + "DRAW by how many HARES: box of the first one and this one (if it can); then day.");
        // Seed 1 draws, of three: 2 1 0, 1 1 2, 0 0 0.
        MarchHares x = Check.of("form 0 0;form 0 1;form 0 2;hare 1 5;hare 2 4;hare 0 3;");
        marchIs(x, 1, 1, 1, 0, 11, 2);
        marchIs(x, 1, 2, 2, 0, 10, 3);
        marchIs(x, 1, 3, 3, 0, 10, 4);
        // Of alike ones the first drawn wins: hare 0 is too weak for the third day's leap then.
        MarchHares alike = Check.of("form 0 0;form 0 1;form 0 2;hare 1 5;hare 2 5;hare 0 5;");
        Check.law(alike, "strong-4");
        marchIs(alike, 1, 2, 2, 0, 13, 3);
        marchIs(alike, 1, 3, 2, 0, 13, 4);
        // On day 31: by seed 1 it stays where it sits, and by seed 2 it leaps, and is caught.
        MarchHares last = Check.of("form 0 0;form 0 1;hare 0 4;fox 0 0;");
        Check.work(last, "again 30[day;];");
        Check.law(last, "1");
        marchIs(last, 1, 1, 0, 0, 4, 1);
        marchIs(last, 2, 1, 1, 1, 0, 1);
        Check.law(last, "0");
        marchIs(last, 2, 1, 0, 0, 4, 1);
        // One form is enough for boxing: seed 1 draws, of two, 0 and 1.
        marchIs(Check.of("form 0 0;hare 0 4;hare 0 5;"), 1, 1, 0, 0, 8, 2);
        marchIs(Check.of("form 0 0;hare 0 4;"), 1, 9, 0, 0, 4, 10);
        // Six, of whom seed 1 draws 2 and form 0, where it goes from 1, and 3, which sits in form 1.
        MarchHares six = Check.of("form 0 0;form 0 1;" + "hare 1 4;".repeat(6));
        Check.work(six, "day;");
        marchIs(six, 1, 1, 1, 0, 24, 3);
        // Who is caught does not leap, nor box.
        marchIs(allCaught(), 1, 96, 0, 3, 0, 4);
    }

    private static void marchesWithout() {
        CHECK.says("Without HARES nothing is DRAWN, DAYS go by.");
        marchIs(new MarchHares(), 1, 1, 0, 0, 0, 2);
        marchIs(new MarchHares(), -1, 30, 0, 0, 0, 31);
        marchIs(new MarchHares(), -1, 31, 0, 0, 0, 1);
        marchIs(Check.of("form 0 0;form 1 1;fox 0 0;"), 7, 96, 0, 0, 0, 4);
    }

    private static void draws() {
        CHECK.says("DRAW: the SEED (32 bits) becomes itself times 1,103,515,245, and 12,345 (it wraps); "
                + "its bits 16 to 30, what is left of them.");
        MarchHares x = Check.of("form 0 0;form 0 1;form 0 2;hare 1 5;hare 2 4;hare 0 3;");
        // Seed -1 draws, of three: 2 2 1, 0 1 2, 2 2 1; bit 31 is set in some of them.
        marchIs(x, -1, 1, 1, 0, 11, 2);
        marchIs(x, -1, 2, 1, 0, 11, 3);
        marchIs(x, -1, 3, 1, 0, 10, 4);
        // The bits 16 to 30 are those of seed -1, for bit 31 alone is another.
        for (int days = 1; days <= 96; days++) {
            CHECK.due("seeds that differ by bit 31", x.march(Integer.MAX_VALUE, days, 2), x.march(-1, days, 2));
        }
        // Seed 0 draws 0 0 1 first: hare 0 leaps to form 0, where hare 1 does not sit.
        marchIs(x, 0, 1, 1, 0, 12, 2);
        marchIs(x, Integer.MIN_VALUE, 1, 1, 0, 12, 2);
    }

    private static void marchesPromised() {
        CHECK.says("A MARCH of so many DAYS (1 to 96): 0 leaps that were done, 1 HARES that are CAUGHT then (bits), "
                + "2 how STRONG all are together then (not CAUGHT ones), 3 the DAY of March then.");
        MarchHares x = Check.of("form 0 0;hare 0 4;");
        marchIs(x, 5, 1, 0, 0, 4, 2);
        marchIs(x, 5, 96, 0, 0, 4, 4);
        for (int days : new int[] {-1, 0, 97, FAR_OFF[0], FAR_OFF[1]}) {
            CHECK.illegal("days " + days, () -> x.march(1, days, 0));
        }
        for (int what : new int[] {-1, 4, FAR_OFF[0], FAR_OFF[1]}) {
            CHECK.illegal("what " + what, () -> x.march(1, 1, what));
        }
        CHECK.due("counted", x.status(1), 9);
        // Seed 5 draws hare 3, form 1, where it sits, and hare 0, which is caught.
        marchIs(withCaught(), 5, 1, 0, 3, 5, 2);
    }

    private static void spans() {
        CHECK.says("Of so many SEEDS (1 to 20; seed, seed and 1, ..): 0 the fewest leaps that were done, 1 the most, "
                + "2 by how many a HARE is not CAUGHT then. (IllegalArgumentException: no such HARE, also for 0, 1.)");
        MarchHares x = Check.of("form 0 0;form 0 1;hare 0 4;fox 0 0;");
        Check.work(x, "again 30[day;];");
        Check.law(x, "1");
        // It leaps by seed 2, and by the greatest; it does not by seed 1, nor by the least.
        int[][] due = {{1, 1, 0, 0, 1}, {2, 1, 1, 1, 0}, {1, 2, 0, 1, 1}, {Integer.MAX_VALUE, 2, 0, 1, 1}};
        for (int[] row : due) {
            for (int what = 0; what < 3; what++) {
                CHECK.due("span " + row[0] + ", " + row[1] + ", " + what, x.span(row[0], row[1], 1, what, 0), row[2 + what]);
            }
        }
        int free = 0;
        for (int seed = -7; seed < 13; seed++) {
            free += x.march(seed, 1, 1) == 0 ? 1 : 0;
        }
        CHECK.due("of twenty", x.span(-7, 20, 1, 2, 0), free);
        CHECK.due("96 days", x.span(1, 1, 96, 0, 0), x.march(1, 96, 0));
        CHECK.due("a caught one", withCaught().span(1, 20, 1, 2, 0), 0);
        CHECK.due("a safe one", withCaught().span(1, 20, 1, 2, 3), 20);
        int[][] wrong = {{0, 1, 0, 0}, {21, 1, 0, 0}, {-1, 1, 0, 0}, {1, 0, 0, 0}, {1, 97, 0, 0}, {1, -1, 0, 0}, {1, 1, -1, 0},
            {1, 1, 3, 0}, {1, 1, 0, 1}, {1, 1, 1, 1}, {1, 1, 2, 1}, {1, 1, 0, -1}, {1, 1, 1, -1}, {1, 1, 2, -1}};
        for (int[] w : wrong) {
            CHECK.illegal("span", () -> x.span(1, w[0], w[1], w[2], w[3]));
        }
        CHECK.due("counted", x.status(1), wrong.length);
        CHECK.due("not as the others", x.status(0), 0);
        CHECK.illegal("without hares", () -> new MarchHares().span(1, 1, 1, 0, 0));
    }

    private static int wouldBe(MarchHares x, int[] f) {
        return x.would(f[0], f[1], f[2], f[3], f[4], f[5], f[6], f[7]);
    }

    private static void would() {
        CHECK.says("LEAP by the LAW for such strong (0 to 9), still (0 to 999), owes, owed (0 to 999 both), others (0 to 5), "
                + "day (1 to 31), hare (0 to 5), leaps (0 to 999).");
        MarchHares x = Check.of("form 0 0;");
        String[] facts = {"strong", "still", "owes", "owed", "others", "day", "hare", "leaps"};
        int[] least = {0, 0, 0, 0, 0, 1, 0, 0};
        int[] most = {9, 999, 999, 999, 5, 31, 5, 999};
        int refused = 0;
        for (int fact = 0; fact < 8; fact++) {
            Check.law(x, "(" + facts[fact] + "+1)/20");
            CHECK.due("the least " + facts[fact], wouldBe(x, least), 0);
            CHECK.due("the most " + facts[fact], wouldBe(x, most), (most[fact] + 1) / 20);
            int[] low = most.clone();
            low[fact] = least[fact];
            CHECK.due("the least " + facts[fact] + " among the most", wouldBe(x, low), (least[fact] + 1) / 20);
            for (int wrong : new int[] {least[fact] - 1, most[fact] + 1, FAR_OFF[0], FAR_OFF[1]}) {
                int[] other = least.clone();
                other[fact] = wrong;
                CHECK.illegal(facts[fact] + " " + wrong, () -> wouldBe(x, other));
                refused++;
            }
        }
        CHECK.due("counted", x.status(1), refused);
    }

    private static void aheadOf() {
        CHECK.says("In n DAYS (0 to 99), nothing else being done: 0 the DAY of March, 1 HARES that are CAUGHT (bits), "
                + "2 all debts together.");
        MarchHares x = Check.of(BOTH + "hare 0 5;hare 0 4;hare 1 1;debt 0 2 9;debt 2 1 8;");
        Check.work(x, "again 30[day;];box 0 1;");
        int[][] due = {{0, 31, 0, 17}, {1, 1, 3, 0}, {31, 31, 3, 0}, {32, 1, 3, 0}, {99, 6, 3, 0}};
        for (int[] row : due) {
            for (int what = 0; what < 3; what++) {
                CHECK.due("ahead " + row[0] + ", " + what, x.ahead(row[0], what), row[1 + what]);
            }
        }
        CHECK.due("none is caught by that", x.told(5), 0);
        CHECK.due("without hares", new MarchHares().ahead(99, 0), 7);
        for (int wrong : new int[] {-1, 100, FAR_OFF[0], FAR_OFF[1]}) {
            CHECK.illegal("n " + wrong, () -> x.ahead(wrong, 0));
        }
        for (int wrong : new int[] {-1, 3, FAR_OFF[0], FAR_OFF[1]}) {
            CHECK.illegal("what " + wrong, () -> x.ahead(0, wrong));
        }
        CHECK.due("counted", x.status(1), 8);
    }

    private static void strongest() {
        CHECK.says("The STRONGEST HARE now that is not CAUGHT (what 0), of alike ones the first, how STRONG (1); "
                + "NONE both: all are CAUGHT.");
        MarchHares x = Check.of("form 0 0;hare 0 4;hare 0 5;hare 0 5;");
        CHECK.due("the first of alike ones", x.strongest(0), 1);
        CHECK.due("how strong", x.strongest(1), 5);
        MarchHares six = Check.of("form 0 0;" + "hare 0 9;".repeat(5) + "hare 0 1;");
        CHECK.due("the very first", six.strongest(0), 0);
        CHECK.due("how strong", six.strongest(1), 9);
        CHECK.due("the last", Check.of("form 0 0;" + "hare 0 1;".repeat(5) + "hare 0 2;").strongest(0), 5);
        Check.work(x, "box 2 1;");
        CHECK.due("now", x.strongest(0), 2);
        Check.work(x, "box 0 2;box 0 1;");
        CHECK.due("now", x.strongest(0), 2);
        MarchHares caught = withCaught();
        CHECK.due("not a caught one", caught.strongest(0), 2);
        CHECK.due("how strong", caught.strongest(1), 3);
        CHECK.due("all are caught", allCaught().strongest(0), NONE);
        CHECK.due("all are caught", allCaught().strongest(1), NONE);
        CHECK.due("there are none", new MarchHares().strongest(0), NONE);
        CHECK.due("there are none", new MarchHares().strongest(1), NONE);
        for (int what : new int[] {-1, 2, FAR_OFF[0], FAR_OFF[1]}) {
            CHECK.illegal("what " + what, () -> x.strongest(what));
            CHECK.illegal("what " + what + ", none there", () -> new MarchHares().strongest(what));
        }
        CHECK.due("counted", x.status(1), 4);
    }

    private static void ties() {
        CHECK.says("HARES (bits) to whom a HARE owes anything (what 0), who owe it anything (1).");
        MarchHares x = Check.of("form 0 0;hare 0 4;hare 0 5;hare 0 5;debt 0 1 1;debt 2 1 1;debt 0 2 0;");
        int[][] due = {{2, 0}, {0, 5}, {2, 0}};
        for (int hare = 0; hare < 3; hare++) {
            CHECK.due("to whom " + hare + " owes", x.ties(hare, 0), due[hare][0]);
            CHECK.due("who owe " + hare, x.ties(hare, 1), due[hare][1]);
        }
        MarchHares six = Check.of("form 0 0;" + "hare 0 4;".repeat(6) + "debt 1 0 9;debt 5 4 9;debt 4 5 9;debt 0 5 9;");
        int[] owes = {32, 1, 0, 0, 32, 16};
        int[] owed = {2, 0, 0, 0, 32, 17};
        for (int hare = 0; hare < 6; hare++) {
            CHECK.due("to whom " + hare + " of six owes", six.ties(hare, 0), owes[hare]);
            CHECK.due("who owe " + hare + " of six", six.ties(hare, 1), owed[hare]);
        }
        Check.work(x, "pay 0 1 1;");
        CHECK.due("paid", x.ties(0, 0), 0);
        CHECK.due("paid", x.ties(1, 1), 4);
        CHECK.due("a caught one", withCaught().ties(0, 0) + withCaught().ties(0, 1), 0);
        CHECK.due("of a caught one", withCaught().ties(2, 1), 0);
        CHECK.due("to another one", withCaught().ties(2, 0), 8);
        for (int wrong : new int[] {-1, 2, FAR_OFF[0], FAR_OFF[1]}) {
            CHECK.illegal("what " + wrong, () -> x.ties(0, wrong));
        }
        for (int wrong : new int[] {-1, 3, FAR_OFF[0], FAR_OFF[1]}) {
            CHECK.noSuch("hare " + wrong, () -> x.ties(wrong, 0));
            CHECK.noSuch("hare " + wrong + " ahead of what", () -> x.ties(wrong, 2));
        }
        CHECK.due("counted", x.status(0) * 100 + x.status(1), 804);
    }

    private static void refuges() {
        CHECK.says("The nearest SAFE FORM to a FORM (what 0; itself, too), of alike ones the first, how FAR (1); "
                + "NONE both: none is SAFE.");
        MarchHares x = Check.of("form 9 9;form 0 9;form 18 9;form 9 13;fox 9 9;fox 9 12;");
        CHECK.due("of alike ones the first", x.refuge(0, 0), 1);
        CHECK.due("how far", x.refuge(0, 1), 9);
        CHECK.due("itself", x.refuge(2, 0), 2);
        CHECK.due("how far", x.refuge(2, 1), 0);
        CHECK.due("from the last", x.refuge(3, 0), 1);
        CHECK.due("how far", x.refuge(3, 1), 13);
        MarchHares same = Check.of("form 9 9;form 9 9;");
        CHECK.due("one at the same place told ahead", same.refuge(1, 0), 0);
        MarchHares none = Check.of("form 9 9;form 9 6;fox 9 9;");
        CHECK.due("none is safe", none.refuge(1, 0), NONE);
        CHECK.due("none is safe", none.refuge(1, 1), NONE);
        for (int wrong : new int[] {-1, 2, FAR_OFF[0], FAR_OFF[1]}) {
            CHECK.illegal("what " + wrong, () -> x.refuge(0, wrong));
            CHECK.illegal("what " + wrong + ", none is safe", () -> none.refuge(0, wrong));
        }
        for (int wrong : new int[] {-1, 4, FAR_OFF[0], FAR_OFF[1]}) {
            CHECK.noSuch("form " + wrong, () -> x.refuge(wrong, 0));
            CHECK.noSuch("form " + wrong + " ahead of what", () -> x.refuge(wrong, 2));
        }
    }

    private static void ranges() {
        CHECK.says("FORMS (bits) a HARE could leap to now.");
        MarchHares x = Check.of("form 0 0;form 0 4;form 0 5;form 0 0;form 4 0;hare 0 1;");
        Check.law(x, "4");
        CHECK.due("exactly as far, not where it sits", x.range(0), 2 + 8 + 16);
        Check.law(x, "0");
        CHECK.due("at the same place", x.range(0), 8);
        Check.law(x, "60");
        CHECK.due("all others", x.range(0), 30);
        for (int form = 1; form < 5; form++) {
            Check.work(x, "leap 0 " + form + ";");
            CHECK.due("all but form " + form, x.range(0), 31 - (1 << form));
        }
        CHECK.due("a caught one", withCaught().range(0), 0);
        CHECK.due("another one", withCaught().range(2), 2);
        for (int wrong : new int[] {-1, 1, FAR_OFF[0], FAR_OFF[1]}) {
            CHECK.noSuch("hare " + wrong, () -> x.range(wrong));
        }
    }

    public static void main(String[] args) {
        nothingChanged();
        beyondYear40();
        hops();
        seats();
        seatsAnew();
        seatsFirst();
        rings();
        bouts();
        boutsInOrder();
        boutsByStrength();
        fits();
        fitsFirst();
        looks();
        looksOfSix();
        watches();
        few();
        roads();
        clovers();
        marches();
        marchesWithout();
        draws();
        would();
        aheadOf();
        hopsPromised();
        seatsCounted();
        seatsPromised();
        ringsPromised();
        ringedPromised();
        boutsPromised();
        fitsPromised();
        looksPromised();
        watchesPromised();
        fewPromised();
        roadsPromised();
        cloversPromised();
        strongest();
        ties();
        refuges();
        ranges();
        marchesPromised();
        spans();
        CHECK.end();
    }
}
