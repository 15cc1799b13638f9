/** Promises 7 to 15: counts, places, carriers and routes. */
public final class PlacesTest {
    /** Places a 0, b 1, x 2, y 3, c 4; carriers p, q and r meet on few days, s has no route. */
    private static final String WEEK = "village a;village b;crossing x;crossing y;village c;"
            + "carrier p;route 1 8 a 10 x;route 96 0 b 23 y;carrier q;route 33 10 x 12 b;"
            + "carrier r;route 65 10 x 23 y;carrier s;";

    private PlacesTest() {
    }

    public static void main(String[] args) {
        count();
        countSwaps();
        isVillage();
        placeNamed();
        stop();
        placeOf();
        nextStop();
        isOnStrike();
        carriersAt();
        meetings();
        Check.done("PlacesTest");
    }

    private static String counts(CrossingMail mail) {
        StringBuilder text = new StringBuilder();
        for (int what = 0; what < 9; what++) {
            text.append(what == 0 ? "" : " ").append(mail.count(what));
        }
        return text.toString();
    }

    private static void count() {
        CrossingMail mail = Texts.loaded(WEEK);
        Check.that("counts", counts(mail), "5 3 4 0 0 0 8 0 0");
        mail = Texts.loaded(Texts.VALLEY);
        mail.run(11);
        Check.that("counts after 11 hours", counts(mail), "4 3 2 3 0 4 8 11 1");
        mail.lose(0);
        mail.post(0, 1, 0);
        mail.setCapacity(20);
        Check.that("counts after a loss", counts(mail), "4 3 2 4 1 5 20 11 1");
        mail.run(168);
        Check.that("a swap a day", counts(mail), "4 3 2 4 1 6 20 179 8");
        CrossingMail last = mail;
        Check.refuses("count(-1)", java.util.NoSuchElementException.class, () -> last.count(-1));
        Check.refuses("count(9)", java.util.NoSuchElementException.class, () -> last.count(9));
        Check.refuses("count of the least int", java.util.NoSuchElementException.class,
            () -> last.count(Integer.MIN_VALUE));
    }

    private static void countSwaps() {
        CrossingMail mail = Texts.loaded(WEEK);
        mail.run(168);
        Check.that("a swap of three counts once", mail.count(8), 2);
        mail = Texts.loaded("crossing x;crossing y;carrier k;route 127 1 x 2 y 3 x;carrier l;route 127 1 x 2 y 3 y;"
            + "carrier m;route 127 1 y 3 x;carrier n;route 127 1 y 3 y;");
        mail.run(2);
        Check.that("two crossings in an hour count twice", mail.count(8), 2);
        mail.run(1);
        Check.that("then one", mail.count(8), 3);
        mail.strike(0, true);
        mail.strike(3, true);
        mail.run(24);
        Check.that("one that is alone swaps nothing", mail.count(8), 3);
        mail = Texts.loaded("village a;carrier k;route 127 1 a;carrier l;route 127 1 a;");
        mail.run(24);
        Check.that("a village is no crossing", mail.count(8) + " " + mail.sackOf(0), "0 0");
    }

    private static void isVillage() {
        CrossingMail mail = Texts.loaded(WEEK);
        String kinds = "";
        for (int place = 0; place < 5; place++) {
            kinds += mail.isVillage(place) ? "v" : "c";
        }
        Check.that("villages and crossings", kinds, "vvccv");
        Check.refuses("isVillage(-1)", IndexOutOfBoundsException.class, () -> mail.isVillage(-1));
        Check.refuses("isVillage(5)", IndexOutOfBoundsException.class, () -> mail.isVillage(5));
    }

    private static void placeNamed() {
        CrossingMail mail = Texts.loaded("village a;crossing ab;village abcdef;carrier tom;");
        String[] names = {"a", "ab", "abcdef", "b", "tom", "", "A", "abcde", "abcdefg", "a ", " a", "ab;", "\0a", "a1", "`a", "``a"};
        int[] places = {0, 1, 2, -1, -1, -1, -1, -1, -1, -1, -1, -1, -1, -1, -1, -1};
        for (int i = 0; i < names.length; i++) {
            Texts.fill(mail, names[i]);
            Check.that("place named '" + names[i] + "'", mail.placeNamed(), places[i]);
            Check.that("the buffer is empty", mail.truncate(1), false);
        }
        Texts.fill(mail, "x".repeat(900));
        Check.that("a place with a name of 900 bytes", mail.placeNamed(), -1);
        CrossingMail empty = new CrossingMail();
        Texts.fill(empty, "a");
        Check.that("a place of a new object", empty.placeNamed(), -1);
    }

    private static void stop() {
        CrossingMail mail = Texts.loaded(WEEK);
        Check.that("stop(0, 0, 0)", mail.stop(0, 0, 0), 800);
        Check.that("stop(0, 0, 1)", mail.stop(0, 0, 1), 1002);
        Check.that("stop(0, 0, 2)", mail.stop(0, 0, 2), -1);
        Check.that("stop(0, 1, 0)", mail.stop(0, 1, 0), -1);
        Check.that("stop(0, 5, 0)", mail.stop(0, 5, 0), 1);
        Check.that("stop(0, 6, 1)", mail.stop(0, 6, 1), 2303);
        Check.that("stop(2, 6, 0)", mail.stop(2, 6, 0), 1002);
        Check.that("stop(3, 0, 0)", mail.stop(3, 0, 0), -1);
        int[] wrong = {-1, Integer.MIN_VALUE, Integer.MAX_VALUE, 6};
        for (int k : wrong) {
            Check.that("stop(0, 0, " + k + ")", mail.stop(0, 0, k), -1);
        }
        mail.strike(0, true);
        Check.that("stop of a carrier on strike", mail.stop(0, 0, 0), 800);
        Check.refuses("stop(-1, 0, 0)", IndexOutOfBoundsException.class, () -> mail.stop(-1, 0, 0));
        Check.refuses("stop(4, 7, 0)", IndexOutOfBoundsException.class, () -> mail.stop(4, 7, 0));
        Check.refuses("stop(0, 7, 0)", java.util.NoSuchElementException.class, () -> mail.stop(0, 7, 0));
        Check.refuses("stop(0, -1, 0)", java.util.NoSuchElementException.class, () -> mail.stop(0, -1, 0));
    }

    private static void placeOf() {
        CrossingMail mail = Texts.loaded(WEEK);
        Check.that("under way at hour 0", mail.placeOf(0), -1);
        mail.run(8);
        Check.that("at a at hour 8", mail.placeOf(0), 0);
        mail.strike(0, true);
        Check.that("on strike at hour 8", mail.placeOf(0), -1);
        mail.strike(0, false);
        mail.run(2);
        Check.that("at x at hour 10", mail.placeOf(0) + " " + mail.placeOf(1) + " " + mail.placeOf(2), "2 2 2");
        mail.run(1);
        Check.that("under way at hour 11", mail.placeOf(0), -1);
        mail.run(156);
        Check.that("at y at hour 167", mail.placeOf(0) + " " + mail.placeOf(1) + " " + mail.placeOf(2), "3 -1 3");
        mail.run(9);
        Check.that("at a in the second week", mail.placeOf(0), 0);
        Check.refuses("placeOf(-1)", IndexOutOfBoundsException.class, () -> mail.placeOf(-1));
        Check.refuses("placeOf(4)", IndexOutOfBoundsException.class, () -> mail.placeOf(4));
    }

    private static void nextStop() {
        CrossingMail mail = Texts.loaded(WEEK + "carrier t;route 1 8 a;");
        Check.that("next stops at 0", nextStops(mail), "8 10 10 -1 8");
        mail.run(8);
        Check.that("next stops at 8", nextStops(mail), "0 2 2 -1 0");
        mail.strike(0, true);
        Check.that("next stops of one on strike", nextStops(mail), "0 2 2 -1 0");
        mail.run(1);
        Check.that("next stops at 9", nextStops(mail), "1 1 1 -1 167");
        mail.run(2);
        Check.that("next stops at 11", nextStops(mail), "109 1 12 -1 165");
        mail.run(168);
        Check.that("next stops at 179", nextStops(mail), "109 1 12 -1 165");
        Check.refuses("nextStop(-1)", IndexOutOfBoundsException.class, () -> mail.nextStop(-1));
        Check.refuses("nextStop(5)", IndexOutOfBoundsException.class, () -> mail.nextStop(5));
    }

    private static String nextStops(CrossingMail mail) {
        StringBuilder text = new StringBuilder();
        for (int carrier = 0; carrier < 5; carrier++) {
            text.append(carrier == 0 ? "" : " ").append(mail.nextStop(carrier));
        }
        return text.toString();
    }

    private static void isOnStrike() {
        CrossingMail mail = Texts.loaded(WEEK);
        Check.that("nobody is on strike", mail.isOnStrike(0) || mail.isOnStrike(3), false);
        mail.strike(3, true);
        Check.that("the last one is on strike", mail.isOnStrike(3), true);
        Check.that("the first one is not", mail.isOnStrike(0), false);
        mail.run(100);
        Check.that("it stays on strike", mail.isOnStrike(3), true);
        mail.strike(3, false);
        Check.that("it works again", mail.isOnStrike(3), false);
        Check.refuses("isOnStrike(-1)", IndexOutOfBoundsException.class, () -> mail.isOnStrike(-1));
        Check.refuses("isOnStrike(4)", IndexOutOfBoundsException.class, () -> mail.isOnStrike(4));
    }

    private static void carriersAt() {
        CrossingMail mail = Texts.loaded(WEEK);
        int[] due = {1, 3, 7, 5, 0};
        for (int place = 0; place < 5; place++) {
            Check.that("carriers at " + place, mail.carriersAt(place), due[place]);
        }
        mail.strike(0, true);
        mail.run(50);
        Check.that("carriers at 0, whatever the time and strikes", mail.carriersAt(0), 1);
        Check.refuses("carriersAt(-1)", IndexOutOfBoundsException.class, () -> mail.carriersAt(-1));
        Check.refuses("carriersAt(5)", IndexOutOfBoundsException.class, () -> mail.carriersAt(5));
    }

    private static void meetings() {
        CrossingMail mail = Texts.loaded(WEEK);
        Check.that("meetings", mail.meetings(), 2);
        mail.strike(0, true);
        mail.strike(1, true);
        mail.run(20);
        Check.that("meetings, whatever the time and strikes", mail.meetings(), 2);
        Check.that("meetings each day", Texts.loaded(Texts.VALLEY).meetings(), 7);
        Check.that("villages are no meetings",
            Texts.loaded("village a;carrier k;route 127 1 a;carrier l;route 127 1 a;").meetings(), 0);
        Check.that("two crossings in an hour",
            Texts.loaded("crossing x;crossing y;carrier k;route 2 1 x;carrier l;route 2 1 x;"
                + "carrier m;route 2 1 y;carrier n;route 2 1 y;").meetings(), 2);
    }
}
