/** Promises 5, 8 to 14, 16 and 36 to 39: what work does, day by day, what is told of it, undone and kept. */
public final class DaysTest {
    private static final Check CHECK = new Check();
    // Forms 0, 2 and 3 are safe, form 1 is not; far: 0-1 5, 1-2 6, 0-2 11.
    private static final String DOWN = "form 0 0;form 5 0;form 5 6;form 20 20;"
            + "hare 0 3;hare 0 5;hare 3 9;hare 1 5;fox 6 0;fox 20 24;debt 0 1 30;debt 2 1 10;debt 1 2 10;";

    private static void asTold() {
        MarchHares x = Check.of(DOWN);
        int[] told = {4, 4, 2, 1, 0, 0, 0, 13, 50, 0, 0, 8};
        for (int what = 0; what < told.length; what++) {
            CHECK.due("told " + what, x.told(what), told[what]);
        }
        int[][] forms = {{0, 0, 1, 3}, {5, 0, 0, 8}, {5, 6, 1, 0}, {20, 20, 1, 4}};
        for (int form = 0; form < 4; form++) {
            for (int what = 0; what < 4; what++) {
                CHECK.due("form " + form + ", " + what, x.form(form, what), forms[form][what]);
            }
        }
        int[][] hares = {{0, 3, 3, 0, 0, 30, 0, 7}, {0, 5, 5, 0, 0, 10, 40, 9}, {3, 9, 9, 0, 0, 10, 10, 13},
            {1, 5, 5, 0, 0, 0, 0, 9}};
        for (int hare = 0; hare < 4; hare++) {
            for (int what = 0; what < 8; what++) {
                CHECK.due("hare " + hare + ", " + what, x.hare(hare, what), hares[hare][what]);
            }
        }
        CHECK.due("fox 0 X", x.fox(0, 0), 6);
        CHECK.due("fox 0 Y", x.fox(0, 1), 0);
        CHECK.due("fox 1 Y", x.fox(1, 1), 24);
        CHECK.due("debt", x.debt(0, 1), 30);
        CHECK.due("debt the other way", x.debt(1, 0), 0);
        CHECK.due("debt to itself", x.debt(2, 2), 0);
        CHECK.due("far", x.far(1, 3), 35);
        CHECK.due("far back", x.far(3, 1), 35);
        CHECK.due("far from itself", x.far(2, 2), 0);
    }

    private static void refusals() {
        MarchHares x = Check.of(DOWN);
        for (int wrong : new int[] {-1, 4, Integer.MAX_VALUE, Integer.MIN_VALUE}) {
            CHECK.noSuch("form", () -> x.form(wrong, 9));
            CHECK.noSuch("hare", () -> x.hare(wrong, 9));
            CHECK.noSuch("fox", () -> x.fox(wrong, 9));
            CHECK.noSuch("debt", () -> x.debt(wrong, 0));
            CHECK.noSuch("debt", () -> x.debt(0, wrong));
            CHECK.noSuch("far", () -> x.far(wrong, 0));
            CHECK.noSuch("far", () -> x.far(0, wrong));
            CHECK.noSuch("can", () -> x.can(wrong, 0) ? 1 : 0);
            CHECK.noSuch("can", () -> x.can(0, wrong) ? 1 : 0);
        }
        CHECK.noSuch("a fox beyond", () -> x.fox(2, 0));
        CHECK.due("those counted", x.status(0), 37);
        CHECK.due("none else", x.status(1), 0);
        CHECK.illegal("form what 4", () -> x.form(0, 4));
        CHECK.illegal("form what -1", () -> x.form(0, -1));
        CHECK.illegal("hare what 8", () -> x.hare(0, 8));
        CHECK.illegal("hare what -1", () -> x.hare(0, -1));
        CHECK.illegal("fox what 2", () -> x.fox(0, 2));
        CHECK.illegal("fox what -1", () -> x.fox(0, -1));
        CHECK.illegal("told what 12", () -> x.told(12));
        CHECK.illegal("told what -1", () -> x.told(-1));
        CHECK.due("these counted", x.status(1), 8);
        CHECK.due("those as they were", x.status(0), 37);
        CHECK.due("status of others", x.status(2), -1);
        CHECK.due("status of others", x.status(-1), -1);
        CHECK.due("count of others", x.count(3), -1);
        CHECK.due("count of others", x.count(-1), -1);
        x.image();
        CHECK.illegal("one more", () -> x.told(99));
        x.restore();
        CHECK.due("no image keeps it", x.status(1), 9);
        Check.down(x, "");
        CHECK.due("nor a down", x.status(1), 9);
    }

    private static void leaping() {
        MarchHares x = Check.of(DOWN);
        CHECK.due("7 of 5", x.can(0, 1) ? 1 : 0, 1);
        CHECK.due("7 of 11", x.can(0, 2) ? 1 : 0, 0);
        CHECK.due("where it sits", x.can(0, 0) ? 1 : 0, 0);
        CHECK.due("one leap, three refused", Check.work(x, "leap 0 0;leap 0 2;leap 0 3;leap 0 1;"), 1);
        CHECK.due("refused", x.told(10), 3);
        CHECK.due("it sits there", x.hare(0, 0), 1);
        CHECK.due("a leap more", x.hare(0, 4), 1);
        CHECK.due("this day", x.told(6), 1);
        CHECK.due("two days", Check.work(x, "day;day;"), 2);
        CHECK.due("nobody leapt then", x.told(6), 0);
        CHECK.due("still 1", x.hare(0, 3), 1);
        CHECK.due("still 2", x.hare(1, 3), 2);
        CHECK.due("leap by still", x.hare(0, 7), 6);
        CHECK.due("exactly as far", Check.work(x, "leap 0 2;"), 1);
        CHECK.due("its still", x.hare(0, 3), 0);
        CHECK.due("leaps by now", x.hare(0, 4), 2);
        CHECK.due("none refused", x.told(10), 0);
        MarchHares same = Check.of("form 4 4;form 4 4;hare 0 1;");
        Check.law(same, "0");
        CHECK.due("a form at the same place", Check.work(same, "leap 0 1;"), 1);
    }

    private static void boxing() {
        MarchHares x = Check.of("form 0 0;form 0 1;hare 0 5;hare 0 5;hare 0 1;hare 1 9;");
        CHECK.due("alike: A wins", Check.work(x, "box 1 0;"), 1);
        CHECK.due("the loser", x.hare(0, 1), 4);
        CHECK.due("the winner", x.hare(1, 1), 5);
        CHECK.due("both this day", x.told(6), 3);
        CHECK.due("B wins", Check.work(x, "day;box 0 1;box 2 1;box 1 2;box 2 0;"), 5);
        CHECK.due("the loser again", x.hare(0, 1), 3);
        CHECK.due("0 at least", x.hare(2, 1), 0);
        CHECK.due("STRONG as told", x.hare(2, 2), 1);
        CHECK.due("no leaps by boxing", x.hare(0, 4), 0);
        CHECK.due("still 0", x.hare(0, 3), 0);
        CHECK.due("refused: itself, elsewhere", Check.work(x, "box 0 0;box 0 3;box 3 0;"), 0);
        CHECK.due("refused", x.told(10), 3);
        CHECK.due("the one that did not box", x.hare(3, 3), 1);
        Check.work(x, "day;");
        CHECK.due("it sat still, too", x.hare(3, 3), 2);
        CHECK.due("those boxed", x.hare(0, 3), 0);
    }

    private static void paying() {
        MarchHares x = Check.of(DOWN);
        CHECK.due("paid", Check.work(x, "pay 0 1 31;pay 0 1 20;pay 0 1 11;pay 0 1 10;pay 0 1 1;pay 0 0 1;"), 2);
        CHECK.due("refused", x.told(10), 4);
        CHECK.due("nothing is left", x.debt(0, 1), 0);
        CHECK.due("others stay", x.told(8), 20);
        CHECK.due("nobody leapt", x.told(6), 0);
    }

    private static void stroke() {
        MarchHares x = Check.of(DOWN + "debt 3 0 7;debt 1 3 8;");
        CHECK.due("to day 31", Check.work(x, "again 30[leap 3 0;leap 3 1;day;];box 0 1;"), 91);
        CHECK.due("day 31", x.told(3), 31);
        CHECK.due("year 0", x.told(4), 0);
        CHECK.due("it would be caught", x.told(11), 8);
        CHECK.due("weaker by a box", x.hare(0, 1), 2);
        CHECK.due("the last day", Check.work(x, "day;"), 1);
        CHECK.due("day 1", x.told(3), 1);
        CHECK.due("year 1", x.told(4), 1);
        CHECK.due("caught: it sat still for a day alone", x.told(5), 8);
        CHECK.due("hare 0 is STRONG again", x.hare(0, 1), 3);
        CHECK.due("still 0", x.hare(2, 3), 0);
        CHECK.due("leaps stay", x.hare(3, 4), 60);
    }

    private static void caught() {
        MarchHares x = Check.of(DOWN + "debt 3 0 7;debt 1 3 8;");
        Check.law(x, "9");
        CHECK.due("restless to day 29", Check.work(x, "again 28[day;];leap 0 1;box 0 3;day;day;"), 32);
        CHECK.due("two strokes ahead", x.ahead(1, 1), 9);
        CHECK.due("the stroke", Check.work(x, "day;"), 1);
        CHECK.due("caught, though it sat still for two days", x.told(5), 9);
        CHECK.due("its form", x.hare(0, 0), -1);
        CHECK.due("its leap", x.hare(0, 7), 0);
        CHECK.due("what it owes", x.hare(0, 5), 0);
        CHECK.due("what is owed to it", x.hare(3, 6), 0);
        CHECK.due("debts of the others", x.told(8), 20);
        CHECK.due("nobody sits there", x.form(1, 3), 0);
        CHECK.due("none would be caught now", x.told(11), 0);
        CHECK.due("STRONG as when it was caught", x.hare(0, 1), 2);
        CHECK.due("still as when it was caught", x.hare(0, 3), 3 - 1);
        CHECK.due("no leap of it", x.can(0, 0) ? 1 : 0, 0);
        CHECK.due("all refused", Check.work(x, "leap 0 0;box 0 3;box 3 1;box 1 3;pay 0 1 1;pay 1 0 1;"), 0);
        CHECK.due("refused", x.told(10), 6);
        Check.work(x, "day;");
        CHECK.due("it does not sit still", x.hare(0, 3), 2);
        Check.work(x, "again 30[day;];");
        CHECK.due("all others at the next stroke, caught ones too", x.hare(0, 1), 3);
        CHECK.due("their still", x.hare(0, 3), 0);
        CHECK.due("caught still", x.told(5), 9);
    }

    private static void stillEnough() {
        MarchHares x = Check.of("form 3 3;hare 0 5;hare 0 5;hare 0 4;fox 3 6;");
        CHECK.due("fox 3 away", x.told(7), 0);
        CHECK.due("28 days", Check.work(x, "again 27[day;];box 0 1;day;"), 29);
        CHECK.due("sat still for 0, 0, 28", x.hare(2, 3), 28);
        CHECK.due("would be caught", x.told(11), 3);
        Check.work(x, "day;day;");
        CHECK.due("sat still for 2", x.hare(0, 3), 2);
        CHECK.due("would be caught", x.told(11), 3);
        CHECK.due("by the day itself for 3", Check.work(x, "day;"), 1);
        CHECK.due("none is caught", x.told(5), 0);
        CHECK.due("a new year", x.told(4), 1);
    }

    private static void bounds() {
        MarchHares x = Check.of("form 0 0;hare 0 1;");
        CHECK.due("200 begun, the again one of them", Check.work(x, "again 40[day;day;day;day;day;];"), 199);
        CHECK.due("day 199", x.told(4) * 31 + x.told(3), 200);
        CHECK.due("agains each time", Check.work(x, "again 40[again 1[again 1[again 1[again 1[day;];];];];];"), 39);
        CHECK.due("refused ones, too", Check.work(x, "again 40[leap 0 0;day;box 0 0;leap 0 0;day;];"), 80 - 1);
        CHECK.due("refused", x.told(10), 120);
        CHECK.due("agains of 0", Check.work(x, "again 0[day;];day;"), 1);
        CHECK.due("empty agains", Check.work(x, "again 40[again 40[];again 40[];];day;"), 1);
        CHECK.due("200 empty ones", Check.work(x, "again 40[again 40[];again 40[];again 40[];again 40[];again 40[];];day;"), 0);
        MarchHares old = Check.of("form 0 0;hare 0 1;");
        for (int work = 0; work < 6; work++) {
            Check.work(old, "again 40[day;day;day;day;day;];");
        }
        CHECK.due("to year 40", Check.work(old, "again 40[day;];again 40[day;];"), 1240 - 1194);
        CHECK.due("refused there", old.told(10), 80 - 46);
        CHECK.due("year 40", old.told(4), 40);
        CHECK.due("day 1", old.told(3), 1);
        CHECK.due("days ahead all the same", old.ahead(30, 0), 31);
        CHECK.due("a March all the same", old.march(7, 96, 3), 4);
    }

    private static void undoing() {
        MarchHares x = Check.of(DOWN);
        CHECK.due("nothing to undo", x.undo(), -1);
        Check.work(x, "leap 0 1;box 0 3;pay 0 1 5;day;leap 1 2;");
        Check.work(x, "leap 3 0;day;");
        Check.law(x, "33");
        Check.book(x, "1 1;");
        CHECK.due("refused", x.told(10), 0);
        Check.work(x, "leap 0 0;leap 0 0;");
        CHECK.due("refused", x.told(10), 1);
        CHECK.due("three works", x.count(2), 3);
        CHECK.due("undone", x.undo(), 2);
        CHECK.due("none refused then", x.told(10), 0);
        CHECK.due("undone", x.undo(), 1);
        CHECK.due("day 2", x.told(3), 2);
        CHECK.due("this day", x.told(6), 0);
        CHECK.due("it sits there", x.hare(0, 0), 1);
        CHECK.due("undone", x.undo(), 0);
        int[] told = {4, 4, 2, 1, 0, 0, 0, 13, 50, 1, 0, 8};
        for (int what = 0; what < told.length; what++) {
            CHECK.due("told as at first, but for the book: " + what, x.told(what), told[what]);
        }
        CHECK.due("it sits there", x.hare(0, 0), 0);
        CHECK.due("STRONG", x.hare(0, 1), 3);
        CHECK.due("leaps", x.hare(0, 4), 0);
        CHECK.due("still", x.hare(2, 3), 0);
        CHECK.due("the law stays", x.hare(0, 7), 33);
        CHECK.due("nothing left", x.undo(), -1);
    }

    private static void imaging() {
        MarchHares x = Check.of(DOWN);
        CHECK.due("nothing to restore", x.restore(), -1);
        Check.work(x, "leap 0 1;day;");
        CHECK.due("image", x.image(), 1);
        Check.work(x, "day;day;leap 0 1;");
        CHECK.due("image", x.image(), 2);
        Check.work(x, "day;pay 0 1 30;");
        CHECK.due("image", x.image(), 3);
        CHECK.due("a fourth", x.image(), -1);
        CHECK.due("three there", x.count(0), 3);
        while (x.undo() > 0) {
            CHECK.due("images stay", x.count(0), 3);
        }
        CHECK.due("restore", x.restore(), 2);
        CHECK.due("works again", x.count(2), 3);
        CHECK.due("day", x.told(3), 5);
        CHECK.due("debts", x.told(8), 20);
        CHECK.due("a work", Check.work(x, "leap 0 1;"), 0);
        CHECK.due("refused", x.told(10), 1);
        CHECK.due("restore", x.restore(), 1);
        CHECK.due("none refused then", x.told(10), 0);
        CHECK.due("works", x.count(2), 2);
        CHECK.due("debts", x.told(8), 50);
        CHECK.due("undo of what was done ahead of the image", x.undo(), 1);
        CHECK.due("day", x.told(3), 2);
        CHECK.due("restore", x.restore(), 0);
        CHECK.due("works", x.count(2), 1);
        CHECK.due("undo", x.undo(), 0);
        CHECK.due("as at first", x.hare(0, 0), 0);
        CHECK.due("nothing to restore", x.restore(), -1);
    }

    private static void fullImages() {
        MarchHares x = Check.of("form 0 0;hare 0 1;");
        for (int work = 0; work < 16; work++) {
            Check.work(x, "day;");
        }
        CHECK.due("an image of 16 works", x.image(), 1);
        for (int work = 0; work < 16; work++) {
            x.undo();
        }
        CHECK.due("day 1", x.told(3), 1);
        CHECK.due("restore", x.restore(), 0);
        CHECK.due("day 17", x.told(3), 17);
        for (int left = 15; left >= 0; left--) {
            CHECK.due("undo", x.undo(), left);
            CHECK.due("its day", x.told(3), left + 1);
        }
    }

    public static void main(String[] args) {
        asTold();
        refusals();
        leaping();
        boxing();
        paying();
        stroke();
        caught();
        stillEnough();
        bounds();
        undoing();
        imaging();
        fullImages();
        CHECK.end();
    }
}
