/** Promises 29 to 33: arrivals that are told before. */
public final class PromisesTest {
    /** The carrier is at a in hour 8 of day 0, and at b in hour 12 of day 6. */
    private static final String WEEKLY = "village a;village b;crossing x;carrier k;route 1 8 a;route 64 12 b;";

    private PromisesTest() {
    }

    public static void main(String[] args) {
        promise();
        promiseAcrossCrossings();
        promiseLooksAt240Hours();
        promisedDays();
        reach();
        bestWait();
        bestWaitLooksAtAWeek();
        expected();
        wrongJourneys();
        Check.done("PromisesTest");
    }

    private static String promises(CrossingMail mail) {
        return mail.promise(0, 1) + " " + mail.promise(0, 2) + " " + mail.promise(1, 0) + " " + mail.promise(1, 2) + " "
            + mail.promise(2, 0) + " " + mail.promise(2, 1);
    }

    private static void promise() {
        CrossingMail mail = Texts.loaded(Texts.VALLEY);
        Check.that("promises at 0", promises(mail), "36 14 32 38 32 12");
        mail.run(8);
        Check.that("promises at 8, which is not processed yet", promises(mail), "28 6 24 30 24 4");
        mail.run(1);
        Check.that("promises at 9", promises(mail), "51 29 23 29 23 3");
        mail.run(1);
        Check.that("promises at 10", promises(mail), "50 28 22 28 46 26");
        mail.strike(1, true);
        Check.that("promises without ann", promises(mail), "26 -1 22 -1 -1 -1");
        mail.strike(0, true);
        Check.that("promises without anybody", promises(mail), "-1 -1 -1 -1 -1 -1");
        mail.strike(1, false);
        Check.that("promises without tom", promises(mail), "-1 -1 -1 -1 -1 -1");
        CrossingMail full = Texts.loaded(Texts.VALLEY);
        full.setCapacity(1);
        full.run(8);
        Check.that("capacities do not count", full.promise(0, 2), 6);
    }

    private static void promiseAcrossCrossings() {
        CrossingMail three = Texts.loaded("village a;village b;village c;village d;crossing x;"
            + "carrier p;route 127 1 a 5 x 9 b;carrier q;route 127 1 b 5 x 9 c;carrier r;route 127 1 c 5 x 9 d;");
        Check.that("p's sack goes to r", three.promise(0, 3), 9);
        Check.that("q's sack goes to p, then to r", three.promise(1, 2), 49);
        Check.that("r's sack goes to q", three.promise(2, 1), 25);
        CrossingMail office = Texts.loaded("village a;village b;village h;carrier p;route 127 3 a 5 h;"
            + "carrier q;route 127 5 h 7 b;carrier r;route 127 4 h 6 b;");
        Check.that("from sack to sack at a village in one hour", office.promise(0, 1), 7);
        CrossingMail twice = Texts.loaded("village a;village b;crossing x;carrier p;route 127 1 a 2 x;"
            + "carrier q;route 127 2 x 3 x;carrier r;route 127 3 x 4 b;");
        Check.that("swapped twice", twice.promise(0, 1), 4);
        CrossingMail back = Texts.loaded("village a;village b;crossing x;carrier p;route 127 1 a 2 x 3 x;"
            + "carrier q;route 127 2 x 3 x 4 b;");
        Check.that("swapped and swapped back", back.promise(0, 1), -1);
    }

    private static void promiseLooksAt240Hours() {
        CrossingMail mail = Texts.loaded(WEEKLY);
        Check.that("promise at 0", mail.promise(0, 1), 156);
        mail.run(9);
        Check.that("315 hours are too many", mail.promise(0, 1), -1);
        Check.that("so is it for days", mail.promisedDays(0, 1), -1);
        Check.that("and for reach", mail.reach(0), 0);
        mail.run(75);
        Check.that("240 hours are too many", mail.count(7) + " " + mail.promise(0, 1), "84 -1");
        Check.that("a letter that is posted now has no promised hour", mail.letter(mail.post(0, 1, 0), 6), -1);
        mail.run(1);
        Check.that("239 hours are not", mail.promise(0, 1), 239);
        Check.that("nor for days", mail.promisedDays(0, 1), 13 - 3);
        Check.that("nor for reach", mail.reach(0), 2);
        Check.that("a letter that is posted then has a promised hour", mail.letter(mail.post(0, 1, 0), 6), 324);
        Check.that("expected", mail.expected(0) + " " + mail.expected(1), "239 239");
    }

    private static void promisedDays() {
        CrossingMail mail = Texts.loaded(Texts.VALLEY);
        Check.that("days at 0", mail.promisedDays(0, 1) + " " + mail.promisedDays(0, 2) + " " + mail.promisedDays(1, 0),
            "1 0 1");
        mail.run(9);
        Check.that("days at 9", mail.promisedDays(0, 1) + " " + mail.promisedDays(0, 2) + " " + mail.promisedDays(2, 1),
            "2 1 0");
        mail.run(14);
        Check.that("days in the last hour of the day", mail.promise(2, 1) + " " + mail.promisedDays(2, 1), "13 1");
        mail.run(1);
        Check.that("days in the first hour of the day", mail.promise(2, 1) + " " + mail.promisedDays(2, 1), "12 0");
        mail.strike(0, true);
        Check.that("no days", mail.promisedDays(2, 1), -1);
    }

    private static void reach() {
        CrossingMail mail = Texts.loaded("crossing y;" + Texts.VALLEY + "village d;");
        Check.that("from a", mail.reach(1), 4 + 8);
        Check.that("from b", mail.reach(2), 2 + 8);
        Check.that("from c", mail.reach(3), 2 + 4);
        Check.that("from where nobody comes", mail.reach(5), 0);
        mail.strike(1, true);
        Check.that("without ann", mail.reach(1) + " " + mail.reach(2) + " " + mail.reach(3), "4 2 0");
        Check.refuses("reach of a crossing", IllegalArgumentException.class, () -> mail.reach(0));
        Check.refuses("reach(-1)", IllegalArgumentException.class, () -> mail.reach(-1));
        Check.refuses("reach(6)", IllegalArgumentException.class, () -> mail.reach(6));
        Check.refuses("reach(32)", IllegalArgumentException.class, () -> mail.reach(32 + 1));
        Check.refuses("reach of the greatest int", IllegalArgumentException.class, () -> mail.reach(Integer.MAX_VALUE));
    }

    private static void bestWait() {
        CrossingMail mail = Texts.loaded(Texts.VALLEY);
        Check.that("wait for tom", mail.bestWait(0, 2), 8);
        Check.that("wait for ann", mail.bestWait(2, 1), 9);
        Check.that("wait at b", mail.bestWait(1, 0), 12);
        mail.run(8);
        Check.that("do not wait", mail.bestWait(0, 2), 0);
        mail.run(1);
        Check.that("wait a day", mail.bestWait(0, 2), 23);
        mail.strike(0, true);
        Check.that("no use in waiting", mail.bestWait(0, 2), -1);
        CrossingMail choice = Texts.loaded("village a;village b;carrier p;route 127 8 a 20 b;carrier q;"
            + "route 4 10 a 12 b;route 16 15 a 17 b;");
        Check.that("the shortest journey is on day 2", choice.bestWait(0, 1), 2 * 24 + 10);
        choice.run(2 * 24 + 11);
        Check.that("then on day 4, of several the fewest", choice.bestWait(0, 1), 2 * 24 + 4);
        choice.strike(1, true);
        Check.that("without q", choice.bestWait(0, 1), 21);
    }

    private static void bestWaitLooksAtAWeek() {
        CrossingMail mail = Texts.loaded(WEEKLY);
        Check.that("wait for hour 8", mail.bestWait(0, 1), 8);
        Check.that("and for hour 12 of day 6", mail.bestWait(1, 0), 156);
        mail.run(8);
        Check.that("no wait at hour 8", mail.bestWait(0, 1), 0);
        mail.run(1);
        Check.that("wait 167 hours", mail.bestWait(0, 1), 167);
    }

    private static void expected() {
        CrossingMail mail = Texts.loaded(Texts.VALLEY);
        Check.that("expected at 0", mail.expected(0) + " " + mail.expected(2), "14 12");
        mail.run(9);
        Check.that("in a sack and in an office", mail.expected(0) + " " + mail.expected(2), "5 3");
        mail.strike(0, true);
        Check.that("the sack is with one on strike", mail.expected(0) + " " + mail.expected(2), "-1 -1");
        mail.strike(0, false);
        mail.run(2);
        Check.that("the sacks are swapped", mail.expected(0) + " " + mail.expected(2), "3 1");
        mail.strike(0, true);
        Check.that("one sack is with one on strike", mail.expected(0) + " " + mail.expected(2), "3 -1");
        mail.strike(0, false);
        mail.run(2);
        Check.that("in a hand", mail.expected(2), -1);
        mail.lose(1);
        Check.that("in a lost sack", mail.expected(0), -1);
        mail.find(0, 0);
        Check.that("in the office of a again", mail.expected(0), 38 - 13);
        Check.refuses("expected(-1)", IndexOutOfBoundsException.class, () -> mail.expected(-1));
        Check.refuses("expected(3)", IndexOutOfBoundsException.class, () -> mail.expected(3));
    }

    private static void wrongJourneys() {
        CrossingMail mail = Texts.loaded(Texts.VALLEY);
        int[][] journeys = {{0, 0}, {3, 0}, {0, 3}, {4, 0}, {0, 4}, {-1, 0}, {0, -1}, {-1, -1}, {3, 3}, {32, 0}, {0, 33},
            {Integer.MIN_VALUE, 0}, {0, Integer.MAX_VALUE}};
        Class<IllegalArgumentException> due = IllegalArgumentException.class;
        for (int[] journey : journeys) {
            String name = journey[0] + ", " + journey[1];
            Check.refuses("promise " + name, due, () -> mail.promise(journey[0], journey[1]));
            Check.refuses("promisedDays " + name, due, () -> mail.promisedDays(journey[0], journey[1]));
            Check.refuses("bestWait " + name, due, () -> mail.bestWait(journey[0], journey[1]));
        }
    }
}
