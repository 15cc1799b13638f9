/** Promises 37 to 45: the actions, and their undoing. */
public final class ActionsTest {
    private ActionsTest() {
    }

    public static void main(String[] args) {
        post();
        postThirty();
        run();
        lose();
        find();
        claim();
        claimOnce();
        strike();
        setCapacity();
        undoOfEachAction();
        undoDepth();
        onlySuccessIsRecorded();
        undoLeavesTheRest();
        Check.done("ActionsTest");
    }

    private static void post() {
        CrossingMail mail = Texts.loaded(Texts.VALLEY);
        mail.run(9);
        Check.that("post", mail.post(0, 1, 0), 3);
        Check.that("post again", mail.post(2, 1, 999), 4);
        Check.that("letter 3 is in its office", Texts.letterText(mail, 3), "a>b office a");
        Check.that("it was posted now", mail.letter(3, 5) + " " + mail.letter(3, 6), "9 60");
        Check.that("letter 4", mail.letter(4, 2) + " " + mail.letter(4, 6), "999 12");
        Check.that("post writes no receipt", mail.count(5), 1);
        mail.run(4);
        Check.that("letter 4 came", mail.letter(4, 3) + " " + mail.letter(4, 7), "2 12");
        int[][] wrong = {{0, 0, 5}, {0, 3, 5}, {3, 0, 5}, {0, 4, 5}, {-1, 0, 5}, {0, 1, -1}, {0, 1, 1000},
            {Integer.MAX_VALUE, 0, 0}, {0, 1, Integer.MIN_VALUE}};
        String before = Texts.snapshot(mail);
        for (int[] w : wrong) {
            Check.refuses("post " + w[0] + ", " + w[1] + ", " + w[2], IllegalArgumentException.class,
                () -> mail.post(w[0], w[1], w[2]));
        }
        Check.that("they change nothing", Texts.snapshot(mail), before);
    }

    private static void postThirty() {
        CrossingMail mail = Texts.loaded(Texts.VALLEY);
        for (int number = 3; number < 30; number++) {
            Check.that("post number " + number, mail.post(1, 0, number), number);
        }
        Check.refuses("a letter too many", IllegalStateException.class, () -> mail.post(0, 1, 0));
        Check.refuses("a letter too many with a wrong value", IllegalArgumentException.class, () -> mail.post(0, 1, 1000));
        Check.refuses("a letter too many to nowhere", IllegalArgumentException.class, () -> mail.post(0, 0, 0));
        Check.that("thirty letters", mail.count(3), 30);
        mail.undo();
        Check.that("room again", mail.post(0, 1, 999), 29);
    }

    private static void run() {
        CrossingMail mail = Texts.loaded(Texts.VALLEY);
        Check.that("run(1)", mail.run(1), 0);
        Check.that("run to hour 12", mail.run(11), 0);
        Check.that("run of hour 12", mail.run(1), 1);
        Check.that("run of a week", mail.run(168), 2);
        Check.that("time", mail.count(7), 181);
        int[] wrong = {0, -1, 169, Integer.MAX_VALUE, Integer.MIN_VALUE};
        for (int hours : wrong) {
            Check.refuses("run " + hours, IllegalArgumentException.class, () -> mail.run(hours));
        }
        Check.that("the time stays", mail.count(7), 181);
        CrossingMail days = Texts.loaded("village a;village b;carrier k;route 64 23 a;route 1 0 b;letter a b;");
        Check.that("the last hour of the week and the first one of the next", days.run(168) + " " + days.run(1), "0 1");
        Check.that("since hour 168", days.letter(0, 7), 168);
        CrossingMail found = Texts.loaded(Texts.VALLEY);
        found.run(11);
        found.lose(1);
        found.find(0, 2);
        Check.that("letters found are not counted", found.letters(2) + " " + found.run(1), "2 0");
    }

    private static void lose() {
        CrossingMail mail = Texts.loaded(Texts.VALLEY);
        Check.that("an empty sack", mail.lose(0), 0);
        Check.that("makes no lost sack", mail.count(4) + " " + mail.count(5), "0 0");
        mail.run(11);
        Check.that("two letters", mail.lose(1), 2);
        Check.that("the sack has the same number", mail.sackOf(1) + " " + mail.sackCount(0), "0 0");
        Check.that("they are in lost sack 0", mail.letter(0, 3) + " " + mail.letter(0, 4), "3 0");
        Check.that("it is empty now", mail.lose(1), 0);
        Check.that("one letter", mail.lose(0), 1);
        Check.that("it is in lost sack 1", mail.letter(2, 3) + " " + mail.letter(2, 4), "3 1");
        Check.that("the trace stays", mail.trace(0), 3);
        mail.run(168);
        Check.that("lost letters do not come", mail.letters(2) + " " + mail.letters(3), "0 3");
        CrossingMail strike = Texts.loaded(Texts.VALLEY);
        strike.run(11);
        strike.strike(1, true);
        Check.that("one on strike can lose its sack, too", strike.lose(1), 2);
        Check.refuses("lose(-1)", IndexOutOfBoundsException.class, () -> mail.lose(-1));
        Check.refuses("lose(2)", IndexOutOfBoundsException.class, () -> mail.lose(2));
    }

    private static void find() {
        CrossingMail mail = Texts.loaded(Texts.VALLEY + "letter a b;");
        mail.run(9);
        mail.lose(0);
        mail.run(1);
        mail.lose(1);
        mail.run(10);
        Check.that("two lost sacks", mail.count(4) + " " + mail.letter(2, 4), "2 1");
        Check.that("find", mail.find(0, 2), 3);
        Check.that("in hands", mail.letter(0, 3) + " " + mail.letter(0, 4) + " " + mail.letter(0, 7), "2 2 20");
        Check.that("in the office of c", mail.letter(3, 3) + " " + mail.letter(3, 4) + " " + mail.letter(3, 7), "0 2 -1");
        Check.that("the lost sack behind it", mail.count(4) + " " + mail.letter(2, 3) + " " + mail.letter(2, 4), "1 3 0");
        Check.refuses("find(1, 0)", IndexOutOfBoundsException.class, () -> mail.find(1, 0));
        Check.refuses("find(1, 3)", IndexOutOfBoundsException.class, () -> mail.find(1, 3));
        Check.refuses("find(-1, 0)", IndexOutOfBoundsException.class, () -> mail.find(-1, 0));
        Check.refuses("find(0, 3)", IllegalArgumentException.class, () -> mail.find(0, 3));
        Check.refuses("find(0, 4)", IllegalArgumentException.class, () -> mail.find(0, 4));
        Check.refuses("find(0, -1)", IllegalArgumentException.class, () -> mail.find(0, -1));
        Check.that("find the other one", mail.find(0, 0), 1);
        Check.that("it goes on from the office of a", mail.letter(2, 3) + " " + mail.letter(2, 4), "0 0");
        mail.run(96);
        Check.that("all came", mail.letters(2), 4);
    }

    private static void claim() {
        CrossingMail mail = Texts.loaded(Texts.VALLEY);
        Class<IllegalStateException> due = IllegalStateException.class;
        Check.refuses("claim of a letter in an office", due, () -> mail.claim(1));
        mail.run(11);
        Check.refuses("claim of a letter in a sack", due, () -> mail.claim(1));
        mail.lose(1);
        Check.refuses("claim of a letter just lost", due, () -> mail.claim(1));
        mail.run(71);
        Check.refuses("claim after 71 hours", due, () -> mail.claim(1));
        mail.run(1);
        Check.refuses("claim of a letter that is not insured", due, () -> mail.claim(0));
        Check.refuses("claim of a letter in a hand", due, () -> mail.claim(2));
        Check.that("claim after 72 hours", mail.claim(1), 50);
        Check.refuses("claim again", due, () -> mail.claim(1));
        Check.that("it is still lost", mail.letter(1, 3) + " " + mail.letter(1, 8), "3 1");
        Check.that("claim writes no receipt", mail.receipt(0, 2), 2);
        Check.refuses("claim(-1)", IndexOutOfBoundsException.class, () -> mail.claim(-1));
        Check.refuses("claim(3)", IndexOutOfBoundsException.class, () -> mail.claim(3));
        mail.undo();
        Check.that("undone, it can be claimed", mail.letter(1, 8) + " " + mail.claim(1), "0 50");
    }

    private static void claimOnce() {
        CrossingMail mail = Texts.loaded(Texts.VALLEY);
        mail.run(9);
        mail.lose(0);
        mail.run(72);
        Check.that("claim", mail.claim(1), 50);
        mail.find(0, 0);
        mail.run(24);
        Check.that("in a sack again", mail.letter(1, 3) + " " + mail.letter(1, 8), "1 1");
        Check.that("lost again", mail.lose(0) + mail.lose(1), 2);
        mail.run(72);
        Check.refuses("claimed before", IllegalStateException.class, () -> mail.claim(1));
    }

    private static void strike() {
        CrossingMail mail = Texts.loaded(Texts.VALLEY);
        Check.that("goes on strike", mail.strike(1, true), false);
        Check.that("was on strike", mail.strike(1, true), true);
        Check.that("the other one works", mail.isOnStrike(0), false);
        mail.run(11);
        Check.that("no swap", mail.count(8) + " " + mail.sackOf(0), "0 0");
        Check.that("letters stay in the office of c", mail.letter(2, 3), 0);
        Check.that("and in the office of a, for none swaps", mail.letter(0, 3), 0);
        Check.that("works again", mail.strike(1, false), true);
        Check.that("worked before", mail.strike(1, false), false);
        mail.run(24);
        Check.that("a swap", mail.count(8) + " " + mail.sackOf(0), "1 1");
        Check.that("the last value counts", mail.isOnStrike(1), false);
        Check.refuses("strike(-1, true)", IndexOutOfBoundsException.class, () -> mail.strike(-1, true));
        Check.refuses("strike(2, false)", IndexOutOfBoundsException.class, () -> mail.strike(2, false));
        Check.refuses("strike(32, true)", IndexOutOfBoundsException.class, () -> mail.strike(32, true));
    }

    private static void setCapacity() {
        CrossingMail mail = Texts.loaded(Texts.VALLEY);
        Check.that("the usual capacity", mail.setCapacity(1), 8);
        Check.that("the capacity before", mail.setCapacity(20), 1);
        Check.that("the same one", mail.setCapacity(20), 20);
        int[] wrong = {0, -1, 21, Integer.MAX_VALUE, Integer.MIN_VALUE};
        for (int capacity : wrong) {
            Check.refuses("setCapacity " + capacity, IllegalArgumentException.class, () -> mail.setCapacity(capacity));
        }
        Check.that("the capacity stays", mail.count(6), 20);
        mail.setCapacity(1);
        mail.run(9);
        Check.that("one letter has room", mail.letter(0, 3) + " " + mail.letter(1, 3), "1 0");
        CrossingMail text = Texts.loaded("capacity 3;");
        Check.that("the capacity of the text", text.setCapacity(4), 3);
    }

    private static void undoOfEachAction() {
        CrossingMail mail = Texts.loaded(Texts.VALLEY + "letter a b insured 4;");
        String[] before = new String[9];
        before[0] = Texts.snapshot(mail);
        mail.run(11);
        before[1] = Texts.snapshot(mail);
        mail.post(2, 1, 8);
        before[2] = Texts.snapshot(mail);
        mail.lose(1);
        before[3] = Texts.snapshot(mail);
        mail.strike(0, true);
        before[4] = Texts.snapshot(mail);
        mail.run(72);
        before[5] = Texts.snapshot(mail);
        mail.claim(1);
        before[6] = Texts.snapshot(mail);
        mail.find(0, 2);
        before[7] = Texts.snapshot(mail);
        mail.setCapacity(2);
        for (int left = 7; left >= 0; left--) {
            Check.that("actions left", mail.undo(), left);
            Check.that("undone to action " + left, Texts.snapshot(mail), before[left]);
        }
        Check.that("no action left", mail.undo(), -1);
        Check.that("and nothing changes", Texts.snapshot(mail), before[0]);
        mail.run(11);
        Check.that("it all goes again", Texts.snapshot(mail), before[1]);
    }

    private static void undoDepth() {
        CrossingMail mail = Texts.loaded(Texts.VALLEY);
        Check.that("depth at first", mail.undoDepth(), 0);
        for (int hours = 1; hours <= 11; hours++) {
            mail.run(hours);
            Check.that("depth after " + hours, mail.undoDepth(), Math.min(hours, 8));
        }
        int time = 66;
        for (int left = 7; left >= 0; left--) {
            time -= left + 4;
            Check.that("undo to " + left, mail.undo(), left);
            Check.that("time " + left, mail.count(7), time);
            Check.that("depth " + left, mail.undoDepth(), left);
        }
        Check.that("the time before the last eight", mail.count(7) + " " + mail.undo(), "6 -1");
        mail.run(1);
        Check.that("one action again", mail.undoDepth() + " " + mail.undo() + " " + mail.count(7), "1 0 6");
        CrossingMail mixed = Texts.loaded(Texts.VALLEY);
        for (int round = 0; round < 30; round++) {
            mixed.run(1);
            mixed.run(2);
            mixed.undo();
        }
        Check.that("undo between actions", mixed.count(7) + " " + mixed.undoDepth(), "30 7");
        for (int round = 0; round < 7; round++) {
            mixed.undo();
        }
        Check.that("seven hours before", mixed.count(7) + " " + mixed.undo(), "23 -1");
    }

    private static void onlySuccessIsRecorded() {
        CrossingMail mail = Texts.loaded(Texts.VALLEY);
        mail.lose(0);
        mail.strike(1, false);
        mail.setCapacity(8);
        Check.that("actions that change nothing are recorded", mail.undoDepth(), 3);
        Check.outcome(() -> mail.post(0, 0, 0));
        Check.outcome(() -> mail.run(0));
        Check.outcome(() -> mail.lose(2));
        Check.outcome(() -> mail.find(0, 0));
        Check.outcome(() -> mail.claim(0));
        Check.outcome(() -> mail.strike(2, true));
        Check.outcome(() -> mail.setCapacity(0));
        Check.that("actions that throw are not", mail.undoDepth(), 3);
        mail.undo();
        mail.promise(0, 1);
        mail.bestWait(0, 1);
        mail.formatLetter(0);
        Texts.fill(mail, "a");
        mail.placeNamed();
        Check.that("nor is undo, nor is a question", mail.undoDepth(), 2);
        Texts.fill(mail, "x");
        Check.outcome(mail::load);
        Check.that("a failed load keeps them", mail.undoDepth(), 2);
        mail.load();
        Check.that("load forgets them", mail.undoDepth() + " " + mail.undo(), "0 -1");
    }

    private static void undoLeavesTheRest() {
        CrossingMail mail = Texts.loaded(Texts.VALLEY);
        Texts.fill(mail, "capacity 0;");
        Check.outcome(mail::load);
        mail.run(11);
        mail.formatCarrier(0);
        Texts.fill(mail, "x");
        mail.undo();
        Check.that("the formatted text stays", Texts.formatted(mail), "tom: 1 2*");
        Check.that("the error stays", mail.errorKind() + "@" + mail.errorOffset(), "2@9");
        Check.that("the buffer stays", mail.placeNamed(), 3);
    }
}
