/** The document's sentences on steps and days, and on what is told, undone and kept, that name an edge. */
public final class EdgesOfDaysTest {
    private static final Check CHECK = new Check();
    private static final int NONE = MarchHares.NONE;
    // Form 0 is not safe, form 1 is: the fox is far by 0 and by 9.
    private static final String BOTH = "form 0 0;form 9 0;fox 0 0;";

    private static int yes(boolean is) {
        return is ? 1 : 0;
    }

    private static void tells(MarchHares x, int what, int due) {
        CHECK.due("told " + what, x.told(what), due);
    }

    private static void hare(MarchHares x, int hare, int what, int due) {
        CHECK.due("hare " + hare + ", " + what, x.hare(hare, what), due);
    }

    private static void work(MarchHares x, String text, int done) {
        CHECK.due("work \"" + text + "\"", Check.work(x, text), done);
    }

    /** Hares 0 and 1 are caught by a stroke, hare 2 is not; 1 owed 2, 2 owed 0, and 2 owes 3, which is safe. */
    private static MarchHares withCaught() {
        MarchHares x = Check.of(BOTH + "hare 0 5;hare 0 4;hare 0 3;hare 1 2;debt 1 2 8;debt 2 0 7;debt 2 3 6;debt 0 1 5;");
        Check.law(x, "9");
        Check.work(x, "again 30[day;];box 0 1;day;");
        return x;
    }

    private static MarchHares inYear40() {
        MarchHares x = Check.of(BOTH + "hare 0 5;");
        for (int work = 0; work < 6; work++) {
            Check.work(x, "again 40[day;day;day;day;day;];");
        }
        Check.work(x, "again 40[day;];day;day;day;day;day;day;");
        return x;
    }

    private static void atFirst() {
        CHECK.says("It is DAY 1 of March of YEAR 0 at first; nobody sat still, leapt, was CAUGHT.");
        MarchHares x = Check.of(BOTH + "hare 0 5;hare 1 4;");
        tells(x, 3, 1);
        tells(x, 4, 0);
        tells(x, 5, 0);
        tells(x, 6, 0);
        for (int hare = 0; hare < 2; hare++) {
            hare(x, hare, 0, hare);
            hare(x, hare, 3, 0);
            hare(x, hare, 4, 0);
        }
        Check.work(x, "leap 0 1;day;day;");
        Check.down(x, BOTH + "hare 0 5;");
        tells(x, 3, 1);
        tells(x, 6, 0);
        hare(x, 0, 3, 0);
        hare(x, 0, 4, 0);
    }

    private static void howFar() {
        CHECK.says("FAR of two FORMS: X and Y, how far each are apart, together.");
        MarchHares x = Check.of("form 0 30;form 30 0;form 30 0;form 0 0;");
        CHECK.due("corner to corner", x.far(0, 1), 60);
        CHECK.due("and back", x.far(1, 0), 60);
        CHECK.due("at one place", x.far(1, 2), 0);
        CHECK.due("itself", x.far(0, 0), 0);
        CHECK.due("along Y", x.far(3, 0), 30);
        CHECK.due("along X", x.far(3, 1), 30);
    }

    private static void safeForms() {
        CHECK.says("A FORM is SAFE, if no FOX is FAR from it by 3 or less.");
        tells(Check.of("form 5 5;form 0 30;"), 7, 3);
        MarchHares x = Check.of("form 5 5;form 5 4;form 4 4;form 6 7;form 7 7;form 8 5;form 9 5;fox 5 5;");
        // Far by 0, 1, 2, 3, 4, 3, 4.
        tells(x, 7, 16 + 64);
        for (int form = 0; form < 7; form++) {
            CHECK.due("safe " + form, x.form(form, 2), form == 4 || form == 6 ? 1 : 0);
        }
        MarchHares four = Check.of("form 1 0;form 9 9;form 20 0;fox 30 30;fox 30 30;fox 30 30;fox 20 3;");
        tells(four, 7, 3);
    }

    private static void refusedSteps() {
        CHECK.says("STEPS are done in order; one that can't be done is REFUSED, and changes nothing");
        MarchHares x = Check.of("form 0 0;form 0 2;form 0 4;hare 0 5;hare 2 1;debt 0 1 3;");
        Check.law(x, "2");
        Check.work(x, "day;");
        work(x, "leap 0 2;leap 0 0;box 0 1;box 0 0;pay 0 1 4;pay 1 0 1;", 0);
        tells(x, 10, 6);
        tells(x, 3, 2);
        tells(x, 6, 0);
        tells(x, 8, 3);
        hare(x, 0, 0, 0);
        hare(x, 0, 1, 5);
        hare(x, 0, 3, 1);
        hare(x, 0, 4, 0);
        hare(x, 1, 1, 1);
        hare(x, 1, 3, 1);
        work(x, "leap 0 1;leap 0 2;box 1 0;", 3);
        hare(x, 0, 0, 2);
        hare(x, 1, 1, 0);
    }

    private static void begunSteps() {
        CHECK.says("200 STEPS at most are begun by one WORK (an again, too, each time it is come to; REFUSED ones, too), "
                + "what would come behind is left out.");
        MarchHares x = Check.of("form 0 0;hare 0 1;");
        work(x, "again 40[day;day;day;day;];again 38[day;];", 160 + 38);
        tells(x, 3, 198 % 31 + 1);
        x.undo();
        work(x, "again 40[day;day;day;day;];again 37[day;];day;day;", 160 + 37 + 1);
        x.undo();
        work(x, "again 40[day;day;day;day;day;];", 199);
        x.undo();
        work(x, "again 40[leap 0 0;leap 0 0;leap 0 0;leap 0 0;leap 0 0;];day;", 0);
        tells(x, 10, 199);
        tells(x, 3, 1);
        x.undo();
        // The outer one, 40 inner ones, 159 days.
        work(x, "again 40[again 4[day;];];day;", 159);
        x.undo();
        // 1 and 40 and 40 begun, then 119 days of 120.
        work(x, "again 40[again 0[];again 3[day;];];", 119);
        x.undo();
        // Agains that hold nothing are begun, too: 1 and 40 times 4, then one more, and 38 days.
        work(x, "again 40[again 40[];again 0[];again 1[];again 2[];];again 40[day;];", 38);
        x.undo();
        work(x, "again 40[again 40[];again 40[];again 40[];again 40[];again 40[];];day;", 0);
        tells(x, 10, 0);
        work(x, "day;", 1);
    }

    private static void stepsTold() {
        CHECK.says("STEP: \"leap\" H F, \"box\" A B,");
        MarchHares x = Check.of("form 0 0;form 0 1;hare 0 3;hare 1 2;");
        work(x, "leap 1 0;", 1);
        CHECK.due("both in form 0", x.form(0, 3), 3);
        work(x, "box 1 0;", 1);
        hare(x, 1, 1, 1);
        hare(x, 0, 1, 3);
    }

    private static void leapsRefused() {
        CHECK.says("leap (REFUSED, if H is CAUGHT, sits in F, or F is FAR by more than its LEAP)");
        MarchHares x = withCaught();
        work(x, "leap 0 1;", 0);
        tells(x, 10, 1);
        work(x, "leap 2 0;", 0);
        tells(x, 10, 1);
        Check.law(x, "8");
        work(x, "leap 2 1;", 0);
        tells(x, 10, 1);
        Check.law(x, "9");
        work(x, "leap 2 1;", 1);
        tells(x, 10, 0);
        MarchHares near = Check.of("form 4 4;form 4 4;hare 0 1;");
        Check.law(near, "0");
        work(near, "leap 0 1;leap 0 1;leap 0 0;", 2);
    }

    private static void leapsDone() {
        CHECK.says("H sits in F, its still is 0, it has leapt once more, and this DAY.");
        MarchHares x = Check.of(BOTH + "hare 0 5;hare 0 5;");
        Check.law(x, "9");
        Check.work(x, "day;day;");
        hare(x, 0, 3, 2);
        work(x, "leap 0 1;", 1);
        hare(x, 0, 0, 1);
        hare(x, 0, 3, 0);
        hare(x, 0, 4, 1);
        tells(x, 6, 1);
        hare(x, 1, 3, 2);
        work(x, "leap 0 0;leap 0 1;day;", 3);
        hare(x, 0, 4, 3);
        hare(x, 0, 3, 0);
        hare(x, 1, 3, 3);
        hare(x, 0, 1, 5);
    }

    private static void leapsByNow() {
        CHECK.says("\"strong\" (by now), \"still\" (DAYS it sat still by now, in a row), \"owes\" (all it owes), "
                + "\"owed\" (all that is owed to it), \"others\" (who sit in its FORM, too), \"day\" (of March), "
                + "\"hare\" (its number), \"leaps\" (it did by now)");
        MarchHares x = Check.of(BOTH + "hare 0 5;hare 0 5;hare 0 5;hare 1 5;debt 0 1 3;debt 0 2 4;debt 3 0 9;debt 2 0 8;");
        String[] laws = {"strong", "still", "owes", "owed", "others", "day", "hare", "leaps"};
        int[] first = {5, 0, 7, 17, 2, 1, 0, 0};
        lawsOf(x, laws, 0, first);
        lawsOf(x, laws, 3, new int[] {5, 0, 9, 0, 0, 1, 3, 0});
        Check.law(x, "9");
        Check.work(x, "box 1 0;leap 0 1;leap 0 0;pay 0 1 3;pay 2 0 1;leap 1 1;day;day;day;");
        lawsOf(x, laws, 0, new int[] {4, 2, 4, 16, 1, 4, 0, 2});
        Check.law(x, "9");
        Check.work(x, "again 27[day;];box 0 2;day;");
        tells(x, 5, 5);
        lawsOf(x, laws, 1, new int[] {5, 0, 0, 0, 1, 1, 1, 1});
        // Hare 1 goes where two that are caught sat.
        Check.law(x, "9");
        Check.work(x, "leap 1 0;");
        lawsOf(x, laws, 1, new int[] {5, 0, 0, 0, 0, 1, 1, 2});
    }

    private static void lawsOf(MarchHares x, String[] laws, int hare, int[] due) {
        for (int law = 0; law < laws.length; law++) {
            Check.law(x, laws[law]);
            CHECK.due("LEAP of " + hare + " by " + laws[law], x.hare(hare, 7), due[law]);
        }
    }

    private static void boxesRefused() {
        CHECK.says("box (REFUSED, if A is B, one is CAUGHT, or they don't sit in one FORM)");
        MarchHares x = withCaught();
        work(x, "box 2 2;", 0);
        work(x, "box 2 0;", 0);
        work(x, "box 0 2;", 0);
        work(x, "box 0 1;", 0);
        work(x, "box 2 3;", 0);
        work(x, "box 3 2;", 0);
        tells(x, 10, 1);
        tells(x, 6, 0);
        hare(x, 2, 1, 3);
        MarchHares y = Check.of("form 4 4;form 4 4;hare 0 1;hare 1 1;");
        work(y, "box 0 1;", 0);
        work(y, "leap 0 1;box 0 1;", 2);
    }

    private static void boxesDone() {
        CHECK.says("who is STRONGER wins, of alike ones A; the loser is STRONG by 1 less (0 at least); "
                + "both have still 0, and leapt this DAY (the leaps they did stay).");
        MarchHares x = Check.of("form 0 0;form 0 1;hare 0 2;hare 0 1;hare 0 1;hare 1 1;");
        Check.work(x, "day;day;");
        work(x, "box 1 0;", 1);
        hare(x, 0, 1, 2);
        hare(x, 1, 1, 0);
        hare(x, 0, 3, 0);
        hare(x, 1, 3, 0);
        hare(x, 2, 3, 2);
        tells(x, 6, 3);
        hare(x, 0, 4, 0);
        work(x, "box 0 1;box 1 0;", 2);
        hare(x, 1, 1, 0);
        hare(x, 0, 1, 2);
        work(x, "day;box 1 2;", 2);
        hare(x, 2, 1, 1);
        hare(x, 1, 1, 0);
        work(x, "box 2 0;box 2 1;", 2);
        hare(x, 2, 1, 0);
        // Both are STRONG by 0: the first one wins, the other stays 0.
        work(x, "box 1 2;box 2 1;", 2);
        hare(x, 1, 1, 0);
        hare(x, 2, 1, 0);
        MarchHares y = Check.of("form 0 0;hare 0 4;hare 0 4;");
        work(y, "box 1 0;", 1);
        hare(y, 1, 1, 4);
        hare(y, 0, 1, 3);
    }

    private static void paysRefused() {
        CHECK.says("pay (REFUSED, if one is CAUGHT, or A owes B less than N): A owes B by N less.");
        MarchHares x = Check.of(BOTH + "hare 0 5;hare 0 5;debt 0 1 5;");
        work(x, "pay 0 1 6;", 0);
        work(x, "pay 1 0 1;", 0);
        work(x, "pay 0 0 1;", 0);
        work(x, "pay 0 1 2;", 1);
        CHECK.due("what is left", x.debt(0, 1), 3);
        CHECK.due("not the other way", x.debt(1, 0), 0);
        work(x, "pay 0 1 4;", 0);
        work(x, "pay 0 1 3;", 1);
        CHECK.due("nothing is left", x.debt(0, 1), 0);
        work(x, "pay 0 1 1;", 0);
        tells(x, 6, 0);
        MarchHares caught = withCaught();
        work(caught, "pay 1 2 1;pay 2 0 1;pay 0 1 1;", 0);
        tells(caught, 10, 3);
        work(caught, "pay 2 3 6;", 1);
    }

    private static void daysRefused() {
        CHECK.says("day (REFUSED in YEAR 40)");
        MarchHares x = inYear40();
        tells(x, 4, 40);
        tells(x, 3, 1);
        tells(x, 10, 0);
        work(x, "day;", 0);
        tells(x, 10, 1);
        tells(x, 4, 40);
        tells(x, 3, 1);
        hare(x, 0, 3, 0);
        Check.law(x, "9");
        work(x, "leap 0 1;day;leap 0 0;", 2);
        tells(x, 6, 1);
        x.undo();
        x.undo();
        x.undo();
        // The last six days are undone; the last of them is the stroke of YEAR 39.
        Check.work(x, "again 40[day;];day;day;day;day;day;");
        tells(x, 4, 39);
        tells(x, 3, 31);
        work(x, "day;day;", 1);
        tells(x, 4, 40);
        tells(x, 10, 1);
    }

    private static void satStill() {
        CHECK.says("each HARE that did not leap, nor box, this DAY, and is not CAUGHT, sat still a DAY more");
        MarchHares x = Check.of(BOTH + "hare 0 5;hare 0 5;hare 0 5;hare 1 5;hare 0 5;debt 4 0 5;");
        Check.law(x, "9");
        work(x, "leap 0 1;box 1 2;pay 4 0 1;day;", 4);
        int[] still = {0, 0, 0, 1, 1};
        for (int hare = 0; hare < 5; hare++) {
            hare(x, hare, 3, still[hare]);
        }
        work(x, "day;", 1);
        for (int hare = 0; hare < 5; hare++) {
            hare(x, hare, 3, still[hare] + 1);
        }
        MarchHares caught = withCaught();
        hare(caught, 0, 3, 0);
        work(caught, "day;day;", 2);
        hare(caught, 0, 3, 0);
        hare(caught, 2, 3, 2);
    }

    private static void satStillOfSix() {
        CHECK.says("sat still a DAY more; then it is the next DAY");
        MarchHares x = Check.of("form 0 0;form 0 0;" + "hare 1 4;".repeat(6));
        work(x, "day;day;day;", 3);
        for (int hare = 0; hare < 6; hare++) {
            int[] due = {1, 4, 4, 3, 0, 0, 0, 5};
            for (int what = 0; what < 8; what++) {
                hare(x, hare, what, due[what]);
            }
        }
        tells(x, 8, 0);
    }

    private static void daysGoBy() {
        CHECK.says("then it is the next DAY; behind DAY 31 comes the STROKE");
        MarchHares x = Check.of(BOTH + "hare 0 5;hare 0 5;");
        Check.work(x, "again 29[day;];");
        tells(x, 3, 30);
        work(x, "box 0 1;day;", 2);
        tells(x, 3, 31);
        tells(x, 4, 0);
        tells(x, 5, 0);
        work(x, "day;", 1);
        tells(x, 3, 1);
        tells(x, 4, 1);
        tells(x, 5, 3);
        MarchHares y = new MarchHares();
        work(y, "again 31[day;];", 31);
        tells(y, 4, 1);
    }

    private static void caughtOnes() {
        CHECK.says("each that is not CAUGHT, does not sit in a SAFE FORM, and sat still for fewer than 3 DAYS, is CAUGHT");
        // Hares 0 to 3 in the unsafe form stir last on days 28, 29, 30, 31; hares 4 and 5 are safe and stir on day 31.
        MarchHares x = Check.of(BOTH + "hare 0 5;hare 0 5;hare 0 5;hare 0 5;hare 1 5;hare 1 5;");
        Check.law(x, "9");
        Check.work(x, "again 27[day;];leap 0 1;leap 0 0;day;leap 1 1;leap 1 0;day;leap 2 1;leap 2 0;day;");
        Check.work(x, "leap 3 1;leap 3 0;box 4 5;");
        tells(x, 3, 31);
        int[] still = {2, 1, 0, 0, 0, 0};
        for (int hare = 0; hare < 6; hare++) {
            hare(x, hare, 3, still[hare]);
        }
        work(x, "day;", 1);
        // Hare 0 has sat still for three days now: 29, 30, 31.
        tells(x, 5, 2 + 4 + 8);
        hare(x, 0, 0, 0);
        hare(x, 1, 0, NONE);
        hare(x, 4, 0, 1);
        Check.work(x, "again 30[day;];leap 0 1;leap 0 0;day;");
        tells(x, 5, 1 + 2 + 4 + 8);
    }

    private static void debtsGone() {
        CHECK.says("is CAUGHT (all its debts, and those to it, are gone)");
        MarchHares x = withCaught();
        tells(x, 5, 3);
        CHECK.due("of one caught to another", x.debt(0, 1), 0);
        CHECK.due("of a caught one", x.debt(1, 2), 0);
        CHECK.due("to a caught one", x.debt(2, 0), 0);
        CHECK.due("of others", x.debt(2, 3), 6);
        tells(x, 8, 6);
        hare(x, 0, 5, 0);
        hare(x, 0, 6, 0);
        hare(x, 2, 5, 6);
        hare(x, 2, 6, 0);
        // Of six the last two are caught, each of whom owes all others, and is owed by all.
        StringBuilder text = new StringBuilder(BOTH + "hare 1 4;".repeat(4) + "hare 0 4;hare 0 4;");
        for (int hare = 0; hare < 6; hare++) {
            for (int other = 0; other < 6; other++) {
                text.append(hare == other ? "" : "debt " + hare + " " + other + " 7;");
            }
        }
        MarchHares six = Check.of(text.toString());
        Check.law(six, "9");
        tells(six, 8, 210);
        work(six, "again 30[day;];leap 4 1;leap 4 0;leap 5 1;leap 5 0;day;", 35);
        tells(six, 5, 48);
        tells(six, 8, 84);
        for (int hare = 0; hare < 6; hare++) {
            for (int other = 0; other < 6; other++) {
                CHECK.due("debt " + hare + " " + other, six.debt(hare, other), hare < 4 && other < 4 && hare != other ? 7 : 0);
            }
            hare(six, hare, 4, hare < 4 ? 0 : 2);
        }
    }

    private static void strongAgain() {
        CHECK.says("all others are STRONG as told again, still 0");
        MarchHares x = Check.of(BOTH + "hare 1 5;hare 1 1;hare 0 3;hare 0 2;");
        work(x, "box 0 1;again 2[box 2 3;];again 30[day;];box 0 1;", 34);
        hare(x, 1, 1, 0);
        hare(x, 3, 1, 0);
        hare(x, 2, 3, 29);
        work(x, "day;", 1);
        tells(x, 5, 0);
        for (int hare = 0; hare < 4; hare++) {
            CHECK.due("STRONG of " + hare, x.hare(hare, 1), x.hare(hare, 2));
            hare(x, hare, 3, 0);
        }
        hare(x, 1, 1, 1);
        // Who is caught by this stroke keeps what it had; at the next stroke it is one of the others.
        work(x, "again 30[day;];box 2 3;day;", 32);
        tells(x, 5, 12);
        hare(x, 3, 1, 1);
        hare(x, 2, 1, 3);
        work(x, "again 31[day;];", 31);
        hare(x, 3, 1, 2);
        tells(x, 5, 12);
    }

    private static void nextYear() {
        CHECK.says("it is DAY 1 of the next YEAR. Nobody has leapt this DAY then.");
        MarchHares x = Check.of(BOTH + "hare 1 5;hare 1 5;hare 0 5;");
        Check.law(x, "9");
        work(x, "again 30[day;];box 0 1;leap 2 1;", 32);
        tells(x, 6, 7);
        work(x, "day;", 1);
        tells(x, 3, 1);
        tells(x, 4, 1);
        tells(x, 6, 0);
        hare(x, 2, 4, 1);
        work(x, "box 0 1;day;", 2);
        tells(x, 6, 0);
        tells(x, 3, 2);
        hare(x, 0, 3, 0);
        hare(x, 2, 3, 1);
    }

    private static void undone() {
        CHECK.says("The latest WORK that was done is undone: how many are left; -1: there is none.");
        MarchHares x = Check.of(BOTH + "hare 0 5;hare 0 4;debt 0 1 9;");
        CHECK.due("none yet", x.undo(), -1);
        Check.law(x, "9");
        Check.work(x, "leap 0 1;pay 0 1 3;day;");
        Check.work(x, "leap 1 1;box 1 0;");
        CHECK.due("a fault is no work", Check.work(x, "dax;"), -9);
        CHECK.due("one left", x.undo(), 1);
        hare(x, 0, 0, 1);
        hare(x, 1, 0, 0);
        hare(x, 1, 1, 4);
        hare(x, 1, 3, 1);
        tells(x, 6, 0);
        tells(x, 3, 2);
        tells(x, 8, 6);
        CHECK.due("none left", x.undo(), 0);
        hare(x, 0, 0, 0);
        hare(x, 0, 4, 0);
        tells(x, 3, 1);
        tells(x, 8, 9);
        CHECK.due("there is none", x.undo(), -1);
        CHECK.due("nor now", x.undo(), -1);
        CHECK.due("it is no refusal", x.status(0) + x.status(1), 0);
        // A stroke is undone: who was caught, debts, the year.
        Check.work(x, "again 30[day;];box 0 1;");
        Check.work(x, "day;");
        tells(x, 5, 3);
        CHECK.due("the stroke", x.undo(), 1);
        tells(x, 5, 0);
        tells(x, 4, 0);
        tells(x, 3, 31);
        tells(x, 6, 3);
        tells(x, 8, 9);
        hare(x, 1, 1, 3);
        // One that did nothing is one all the same.
        Check.work(x, "");
        Check.work(x, "leap 0 0;");
        CHECK.due("three", x.count(2), 3);
        CHECK.due("two", x.undo(), 2);
        CHECK.due("one", x.undo(), 1);
    }

    private static void refusedByLatest() {
        CHECK.says("10 STEPS REFUSED by the latest WORK (0 ahead of any, behind undo(), restore())");
        MarchHares x = Check.of("form 0 0;hare 0 5;");
        tells(x, 10, 0);
        Check.work(x, "leap 0 0;leap 0 0;day;");
        tells(x, 10, 2);
        CHECK.due("no image, nothing is restored", x.restore(), -1);
        tells(x, 10, 2);
        Check.work(x, "x");
        tells(x, 10, 2);
        x.image();
        tells(x, 10, 2);
        Check.law(x, "5");
        Check.book(x, "0 1;");
        tells(x, 10, 2);
        Check.work(x, "leap 0 0;leap 0 0;leap 0 0;");
        tells(x, 10, 3);
        x.undo();
        tells(x, 10, 0);
        Check.work(x, "leap 0 0;");
        tells(x, 10, 1);
        x.restore();
        tells(x, 10, 0);
        Check.work(x, "leap 0 0;day;");
        tells(x, 10, 1);
        Check.work(x, "day;");
        tells(x, 10, 0);
        Check.work(x, "leap 0 0;");
        Check.down(x, "form 0 0;hare 0 5;");
        tells(x, 10, 0);
    }

    private static void strokeNow() {
        CHECK.says("11 HARES that would be CAUGHT, were the STROKE now (bits).");
        MarchHares x = Check.of(BOTH + "hare 0 5;hare 1 5;hare 0 5;");
        tells(x, 11, 5);
        work(x, "day;day;", 2);
        tells(x, 11, 5);
        work(x, "day;", 1);
        tells(x, 11, 0);
        work(x, "box 0 2;", 1);
        tells(x, 11, 5);
        tells(withCaught(), 11, 4);
        tells(Check.of("form 0 0;hare 0 1;"), 11, 0);
    }

    private static void toldOthers() {
        CHECK.says("IllegalArgumentException: another what (so below).");
        MarchHares x = Check.of(BOTH + "hare 0 5;");
        int refused = 0;
        for (int what : new int[] {-1, 12, Integer.MAX_VALUE, Integer.MIN_VALUE}) {
            CHECK.illegal("told " + what, () -> x.told(what));
            refused++;
        }
        int[] most = {3, 7, 1};
        for (int call = 0; call < 3; call++) {
            for (int what : new int[] {-1, most[call] + 1, Integer.MAX_VALUE, Integer.MIN_VALUE}) {
                int which = call;
                CHECK.illegal("call " + call + ", what " + what, () -> which == 0 ? x.form(0, what)
                        : which == 1 ? x.hare(0, what) : x.fox(0, what));
                refused++;
            }
        }
        CHECK.due("all counted", x.status(1), refused);
        for (int what = 0; what <= 11; what++) {
            x.told(what);
        }
        CHECK.due("none more", x.status(1), refused);
    }

    private static void toldAll() {
        CHECK.says("0 FORMS, 1 HARES, 2 FOXES, 3 the DAY of March, 4 the YEAR, 5 HARES that are CAUGHT (bits), "
                + "6 HARES that leapt, or boxed, this DAY (bits), 7 FORMS that are SAFE (bits), 8 all debts together, "
                + "9 lines of the BOOK");
        MarchHares x = withCaught();
        Check.book(x, "1 1;");
        Check.work(x, "day;day;leap 2 1;box 2 3;");
        int[] due = {2, 4, 1, 3, 1, 3, 12, 2, 6, 1, 0, 0};
        for (int what = 0; what < due.length; what++) {
            tells(x, what, due[what]);
        }
        MarchHares full = Check.of("form 9 9;".repeat(8) + "hare 7 1;".repeat(6) + "fox 0 0;".repeat(4));
        Check.book(full, "0 0;1 0;2 0;3 0;4 0;5 0;6 0;7 6;");
        Check.work(full, "again 3[box 0 1;box 2 3;box 4 5;];");
        int[] most = {8, 6, 4, 1, 0, 0, 63, 255, 0, 8, 0, 0};
        for (int what = 0; what < most.length; what++) {
            tells(full, what, most[what]);
        }
    }

    private static void forms() {
        CHECK.says("Of a FORM: 0 X, 1 Y, 2 1 SAFE, 0 not, 3 HARES that sit there (bits; none CAUGHT).");
        MarchHares x = withCaught();
        int[][] due = {{0, 0, 0, 4}, {9, 0, 1, 8}};
        for (int form = 0; form < 2; form++) {
            for (int what = 0; what < 4; what++) {
                CHECK.due("form " + form + ", " + what, x.form(form, what), due[form][what]);
            }
        }
        MarchHares six = Check.of("form 0 0;" + "hare 0 1;".repeat(6));
        CHECK.due("all six", six.form(0, 3), 63);
    }

    private static void noSuch() {
        CHECK.says("NoSuchElementException: no such FORM, HARE, FOX (so below, ahead of others).");
        MarchHares x = Check.of("form 0 0;form 1 1;form 2 2;hare 0 5;hare 0 5;fox 0 0;");
        for (int wrong : new int[] {-1, 3, 8, Integer.MAX_VALUE, Integer.MIN_VALUE}) {
            CHECK.noSuch("form " + wrong, () -> x.form(wrong, 0));
            CHECK.noSuch("form, what ahead of it", () -> x.form(wrong, 9));
            CHECK.noSuch("far from", () -> x.far(wrong, 0));
            CHECK.noSuch("far to", () -> x.far(0, wrong));
            CHECK.noSuch("can to", () -> yes(x.can(0, wrong)));
        }
        for (int wrong : new int[] {-1, 2, 6, Integer.MAX_VALUE, Integer.MIN_VALUE}) {
            CHECK.noSuch("hare " + wrong, () -> x.hare(wrong, 0));
            CHECK.noSuch("hare, what ahead of it", () -> x.hare(wrong, -1));
            CHECK.noSuch("debt of", () -> x.debt(wrong, 0));
            CHECK.noSuch("debt to", () -> x.debt(0, wrong));
            CHECK.noSuch("debt of itself", () -> x.debt(wrong, wrong));
            CHECK.noSuch("can of", () -> yes(x.can(wrong, 0)));
        }
        for (int wrong : new int[] {-1, 1, 4, Integer.MAX_VALUE, Integer.MIN_VALUE}) {
            CHECK.noSuch("fox " + wrong, () -> x.fox(wrong, 0));
            CHECK.noSuch("fox, what ahead of it", () -> x.fox(wrong, 2));
        }
        CHECK.due("the last form", x.form(2, 0), 2);
        CHECK.due("the last hare", x.hare(1, 2), 5);
        CHECK.due("the last fox", x.fox(0, 0), 0);
        CHECK.due("all counted", x.status(0), 5 * 13);
        CHECK.due("none else", x.status(1), 0);
        // A down of fewer ones: what was told ahead is no more there.
        Check.down(x, "form 7 7;");
        CHECK.noSuch("form 1", () -> x.form(1, 0));
        CHECK.noSuch("hare 0", () -> x.hare(0, 0));
        CHECK.noSuch("fox 0", () -> x.fox(0, 0));
    }

    private static void hares() {
        CHECK.says("0 the FORM it sits in (NONE: CAUGHT), 1 STRONG now, 2 STRONG as told, 3 still, 4 leaps by now, "
                + "5 what it owes in all, 6 what is owed to it in all, 7 LEAP (0: CAUGHT).");
        MarchHares x = withCaught();
        int[] caught = {NONE, 3, 4, 0, 0, 0, 0, 0};
        for (int what = 0; what < 8; what++) {
            hare(x, 1, what, caught[what]);
        }
        int[] free = {0, 3, 3, 0, 0, 6, 0, 9};
        for (int what = 0; what < 8; what++) {
            hare(x, 2, what, free[what]);
        }
        MarchHares most = Check.of("form 0 0;" + "hare 0 1;".repeat(6)
                + "debt 0 1 99;debt 0 2 99;debt 0 3 99;debt 0 4 99;debt 0 5 99;debt 1 5 99;debt 2 5 99;debt 3 5 99;debt 4 5 99;");
        hare(most, 0, 5, 495);
        hare(most, 5, 6, 495);
        tells(most, 8, 891);
    }

    private static void foxes() {
        CHECK.says("Of a FOX: 0 X, 1 Y.");
        MarchHares x = Check.of("fox 1 2;fox 3 4;fox 5 6;fox 0 30;");
        int[][] due = {{1, 2}, {3, 4}, {5, 6}, {0, 30}};
        for (int fox = 0; fox < 4; fox++) {
            CHECK.due("X of fox " + fox, x.fox(fox, 0), due[fox][0]);
            CHECK.due("Y of fox " + fox, x.fox(fox, 1), due[fox][1]);
        }
        CHECK.noSuch("a fifth", () -> x.fox(4, 0));
        CHECK.illegal("another what", () -> x.fox(3, 2));
    }

    private static void farAsked() {
        CHECK.says("`int far(int form, int other) throws NoSuchElementException`: FAR.");
        MarchHares x = Check.of("form 1 9;form 4 2;");
        CHECK.due("there", x.far(0, 1), 10);
        CHECK.due("back", x.far(1, 0), 10);
        CHECK.due("nowhere", x.far(1, 1), 0);
        CHECK.noSuch("no such form", () -> x.far(2, 2));
    }

    private static void debts() {
        CHECK.says("What a HARE owes another one (0: itself).");
        MarchHares x = Check.of("form 0 0;hare 0 1;hare 0 1;debt 0 1 7;");
        CHECK.due("another one", x.debt(0, 1), 7);
        CHECK.due("the other way", x.debt(1, 0), 0);
        CHECK.due("itself", x.debt(0, 0), 0);
        CHECK.due("itself", x.debt(1, 1), 0);
    }

    private static void couldLeap() {
        CHECK.says("Whether leap could be done now.");
        MarchHares x = withCaught();
        CHECK.due("exactly as far", yes(x.can(2, 1)), 1);
        CHECK.due("where it sits", yes(x.can(2, 0)), 0);
        CHECK.due("caught", yes(x.can(0, 1)), 0);
        CHECK.due("caught, where it sat", yes(x.can(0, 0)), 0);
        Check.law(x, "8");
        CHECK.due("too far", yes(x.can(2, 1)), 0);
        CHECK.due("it did not leap", x.hare(2, 4), 0);
        MarchHares weary = Check.of(BOTH + "hare 0 5;");
        CHECK.due("4 + 5", yes(weary.can(0, 1)), 1);
        Check.work(weary, "day;");
        CHECK.due("4 + 5 - 1", yes(weary.can(0, 1)), 0);
    }

    private static void images() {
        CHECK.says("An IMAGE of all that WORK changes, and of the WORKS that can be undone: how many there are; "
                + "-1: there are 3.");
        MarchHares x = Check.of(BOTH + "hare 0 5;hare 0 4;debt 0 1 9;");
        for (int image = 1; image <= 3; image++) {
            CHECK.due("image", x.image(), image);
            Check.work(x, "day;");
        }
        CHECK.due("there are 3", x.image(), -1);
        CHECK.due("there are 3", x.image(), -1);
        CHECK.due("they are", x.count(0), 3);
        CHECK.due("it is no refusal", x.status(0) + x.status(1), 0);
        CHECK.due("restore", x.restore(), 2);
        tells(x, 3, 3);
        CHECK.due("the third again", x.image(), 3);
    }

    private static void restored() {
        CHECK.says("All is as in the latest IMAGE, which is gone: how many are left; -1: there is none.");
        MarchHares x = Check.of(BOTH + "hare 0 5;hare 0 4;debt 0 1 9;");
        CHECK.due("none yet", x.restore(), -1);
        Check.law(x, "9");
        Check.work(x, "again 30[day;];leap 0 1;pay 0 1 3;box 0 1;");
        x.image();
        Check.work(x, "leap 1 1;box 1 0;day;");
        x.image();
        x.undo();
        x.undo();
        Check.law(x, "11");
        Check.book(x, "0 1;1 1;");
        CHECK.due("one left", x.restore(), 1);
        CHECK.due("works", x.count(2), 2);
        tells(x, 4, 1);
        tells(x, 3, 1);
        hare(x, 1, 0, 1);
        // No WORK changes these two, so that no IMAGE keeps them.
        hare(x, 1, 7, 11);
        tells(x, 9, 2);
        CHECK.due("none left", x.restore(), 0);
        CHECK.due("works", x.count(2), 1);
        tells(x, 4, 0);
        tells(x, 3, 31);
        tells(x, 6, 1);
        tells(x, 8, 6);
        hare(x, 0, 0, 1);
        hare(x, 0, 4, 1);
        hare(x, 1, 0, 0);
        hare(x, 1, 3, 30);
        CHECK.due("there is none", x.restore(), -1);
        CHECK.due("the works in it can be undone", x.undo(), 0);
        tells(x, 3, 1);
        tells(x, 8, 9);
        CHECK.due("it is no refusal", x.status(0) + x.status(1), 0);
    }

    private static void restoredWorks() {
        CHECK.says("and of the WORKS that can be undone");
        MarchHares x = Check.of("form 0 0;hare 0 1;");
        for (int work = 0; work < 16; work++) {
            Check.work(x, "day;");
        }
        x.image();
        for (int work = 0; work < 16; work++) {
            x.undo();
        }
        for (int work = 0; work < 16; work++) {
            Check.work(x, "day;day;day;");
        }
        CHECK.due("restore", x.restore(), 0);
        CHECK.due("all 16", x.count(2), 16);
        for (int left = 15; left >= 0; left--) {
            CHECK.due("undo", x.undo(), left);
            tells(x, 3, left + 1);
        }
        // Each image has works of its own.
        Check.work(x, "day;");
        Check.work(x, "day;");
        x.image();
        x.undo();
        x.undo();
        Check.work(x, "day;day;day;");
        Check.work(x, "day;");
        x.image();
        x.undo();
        x.undo();
        Check.work(x, "again 20[day;];");
        Check.work(x, "day;");
        int[] days = {5, 4, 1, 3, 2, 1};
        for (int at = 0; at < 6; at++) {
            if (at % 3 == 0) {
                x.restore();
            } else {
                x.undo();
            }
            tells(x, 3, days[at]);
        }
        CHECK.due("an image without works", x.image(), 1);
        Check.work(x, "day;");
        CHECK.due("restore", x.restore(), 0);
        CHECK.due("no works", x.undo(), -1);
        tells(x, 3, 1);
    }

    private static void statuses() {
        CHECK.says("How many calls were refused: 0 NoSuchElementException, 1 IllegalArgumentException; "
                + "NONE for others. (No IMAGE keeps it.)");
        MarchHares x = Check.of("form 0 0;hare 0 1;");
        CHECK.due("none", x.status(0), 0);
        CHECK.due("none", x.status(1), 0);
        x.image();
        CHECK.noSuch("no such hare", () -> x.hare(1, 9));
        CHECK.illegal("no such what", () -> x.hare(0, 9));
        CHECK.illegal("no such what", () -> x.told(99));
        x.restore();
        CHECK.due("one", x.status(0), 1);
        CHECK.due("two", x.status(1), 2);
        Check.work(x, "day;");
        x.undo();
        Check.down(x, "");
        CHECK.due("one", x.status(0), 1);
        CHECK.due("two", x.status(1), 2);
        // What answers by a number is no refused call.
        x.undo();
        x.restore();
        Check.down(x, "x");
        x.status(7);
        x.count(7);
        CHECK.due("one", x.status(0), 1);
        CHECK.due("two", x.status(1), 2);
        for (int what : new int[] {-1, 2, Integer.MAX_VALUE, Integer.MIN_VALUE}) {
            CHECK.due("others", x.status(what), NONE);
        }
    }

    private static void counts() {
        CHECK.says("0 IMAGES, 1 bytes of the TAPE, 2 WORKS that can be undone; NONE for others.");
        MarchHares x = Check.of("form 0 0;hare 0 1;");
        for (int what = 0; what < 3; what++) {
            CHECK.due("none", x.count(what), 0);
        }
        x.image();
        x.image();
        Check.work(x, "day;");
        x.feed(0, 0, 0, 0, 0);
        CHECK.due("images", x.count(0), 2);
        CHECK.due("bytes", x.count(1), 20);
        CHECK.due("works", x.count(2), 1);
        x.restore();
        CHECK.due("bytes stay", x.count(1), 20);
        CHECK.due("works", x.count(2), 0);
        for (int what : new int[] {-1, 3, Integer.MAX_VALUE, Integer.MIN_VALUE}) {
            CHECK.due("others", x.count(what), NONE);
        }
        CHECK.due("no refusals", x.status(1), 0);
    }

    private static void manyCalls() {
        CHECK.says("An object is used for at most 512 calls after it has been made");
        MarchHares x = new MarchHares();
        for (int call = 1; call <= 256; call++) {
            CHECK.illegal("told 12", () -> x.told(12));
            CHECK.due("counted", x.status(1), call);
        }
        MarchHares y = new MarchHares();
        for (int call = 1; call <= 128; call++) {
            CHECK.due("fed", y.feed(0x20202020, 0x64617920, 0x3b202020, 0, 0), 20);
            CHECK.due("a day", y.work(12), 1);
            CHECK.due("the day", y.told(3), 2);
            CHECK.due("undone", y.undo(), 0);
        }
    }

    public static void main(String[] args) {
        atFirst();
        howFar();
        safeForms();
        refusedSteps();
        begunSteps();
        stepsTold();
        leapsRefused();
        leapsDone();
        leapsByNow();
        boxesRefused();
        boxesDone();
        paysRefused();
        daysRefused();
        satStill();
        satStillOfSix();
        daysGoBy();
        caughtOnes();
        debtsGone();
        strongAgain();
        nextYear();
        undone();
        refusedByLatest();
        strokeNow();
        toldOthers();
        toldAll();
        forms();
        noSuch();
        hares();
        foxes();
        debts();
        farAsked();
        couldLeap();
        images();
        restored();
        restoredWorks();
        statuses();
        counts();
        manyCalls();
        CHECK.end();
    }
}
