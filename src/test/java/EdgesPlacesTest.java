/** Promises 7 to 15: each sentence of the document that names a boundary of counts, places and carriers. */
public final class EdgesPlacesTest {
    /** The first and the last numbers: places 0 to 9, carriers 0 to 4, hours 0 and 23, weekdays 0 and 6. */
    private static final String FULL = "village a;village b;crossing c;crossing d;village e;village f;village g;"
            + "village h;village abcdef;crossing j;carrier p;route 1 0 a 1 b 2 c 3 d 4 e 5 f;carrier q;"
            + "route 64 23 j;carrier r;route 65 0 c 2 c 23 j;carrier s;carrier t;route 64 18 a 19 b 20 c 21 d 22 e 23 j;";
    private static final int[] WRONG = {-1, Integer.MIN_VALUE, Integer.MAX_VALUE, 31, 32, 33, 64, -32};

    private EdgesPlacesTest() {
    }

    public static void main(String[] args) {
        countOfWhat();
        countOfNone();
        countOfMost();
        countOfReceipts();
        countOfLostSacks();
        countOfSwaps();
        numbersOfPlaces();
        numbersOfCarriers();
        isVillage();
        placeNamed();
        placeNamedEmptiesTheBuffer();
        stopNumbers();
        stopWeekdays();
        placeOfPresentHour();
        weekdaysWrapAround();
        nextStop();
        isOnStrike();
        carriersAt();
        meetings();
        Edge.done("EdgesPlacesTest", 7, 8, 9, 10, 11, 12, 13, 14, 15);
    }

    private static void countOfWhat() {
        Edge.says(7, "if what is not 0 to 8");
        CrossingMail mail = Texts.loaded(FULL);
        Edge.throwsNoSuch("-1", () -> mail.count(-1));
        Edge.throwsNoSuch("9", () -> mail.count(9));
        Edge.throwsNoSuch("the least int", () -> mail.count(Integer.MIN_VALUE));
        Edge.throwsNoSuch("the greatest int", () -> mail.count(Integer.MAX_VALUE));
        Edge.says(7, "0 places, 1 villages, 2 carriers, 3 letters, 4 lost sacks, 5 receipts that are kept, 6 the capacity, "
            + "7 the time, 8 the number of swaps so far");
        CrossingMail told = Texts.loaded("village a;village b;crossing x;carrier k;route 127 1 a 2 x 3 x 4 x 5 x 6 b;"
            + "carrier l;route 127 2 x 3 x 4 x 5 x;" + "letter a b insured 1;".repeat(4));
        told.run(6);
        told.lose(0);
        StringBuilder all = new StringBuilder();
        for (int what = 0; what < 9; what++) {
            all.append(told.count(what)).append(' ');
        }
        Edge.that("all nine", all.toString(), "3 2 2 4 1 24 8 6 4 ");
    }

    private static void countOfNone() {
        Edge.says(7, "Returns that number.");
        CrossingMail mail = Texts.loaded("");
        for (int what = 0; what < 9; what++) {
            Edge.that("nothing " + what, mail.count(what), what == 6 ? 8 : 0);
        }
        mail.run(168);
        Edge.that("but the time goes on", mail.count(7), 168);
    }

    private static void countOfMost() {
        Edge.says(7, "There are at most 10 places");
        CrossingMail mail = Texts.loaded(FULL + "capacity 20;");
        for (int letter = 0; letter < 30; letter++) {
            mail.post(0, 1, 0);
        }
        Edge.that("ten places, seven villages", mail.count(0) + " " + mail.count(1), "10 7");
        Edge.says(7, "There are at most 5 carriers");
        Edge.that("five carriers", mail.count(2), 5);
        Edge.says(7, "There are at most 30 letters");
        Edge.that("thirty letters", mail.count(3), 30);
        Edge.says(7, "(1 to 20 letters)");
        Edge.that("capacity 20", mail.count(6), 20);
    }

    private static void countOfReceipts() {
        Edge.says(7, "The latest 60 are kept.");
        CrossingMail mail = Texts.loaded("village a;village b;capacity 20;carrier k;route 127 1 a 2 b;"
            + "letter a b insured 1;".repeat(20));
        mail.run(2);
        mail.lose(0);
        Edge.that("forty", mail.count(5), 40);
        mail.find(0, 0);
        Edge.that("sixty", mail.count(5), 60);
        mail.run(24);
        Edge.that("still sixty", mail.count(5), 60);
        mail.undo();
        mail.undo();
        Edge.that("forty again", mail.count(5), 40);
    }

    private static void countOfLostSacks() {
        Edge.says(7, "Lost sacks are numbered from 0, the earliest one first; if the sack is empty, there is no lost sack.");
        CrossingMail mail = Texts.loaded("village a;village b;capacity 1;carrier k;route 127 1 a 2 b;"
            + "letter a b;".repeat(30));
        Edge.that("an empty sack", mail.lose(0) + " " + mail.count(4), "0 0");
        for (int day = 0; day < 30; day++) {
            mail.run(2);
            mail.lose(0);
            mail.run(22);
        }
        Edge.that("thirty lost sacks of one letter each", mail.count(4) + " " + mail.letters(3), "30 30");
        Edge.that("the earliest one", mail.lostSack(0, 1) + " " + mail.letter(0, 4), "2 0");
        Edge.that("the latest one", mail.lostSack(29, 1) + " " + mail.letter(29, 4), "698 29");
        mail.find(29, 0);
        Edge.that("one is found", mail.count(4), 29);
    }

    private static void countOfSwaps() {
        Edge.says(7, "(each crossing in an hour at which sacks were swapped counts once)");
        CrossingMail mail = Texts.loaded(FULL);
        mail.run(2);
        Edge.that("one carrier is alone", mail.count(8), 0);
        mail.run(1);
        Edge.that("two at crossing c", mail.count(8), 1);
        mail.run(164);
        Edge.that("before the last hour of the week", mail.count(7) + " " + mail.count(8), "167 1");
        mail.run(1);
        Edge.that("three at crossing j", mail.count(8), 2);
        CrossingMail two = Texts.loaded("village v;crossing a;crossing b;carrier k;route 127 1 a;carrier l;route 127 1 a;"
            + "carrier m;route 127 1 b;carrier n;route 127 1 b;");
        two.run(2);
        Edge.that("two crossings in one hour", two.count(8), 2);
        two.strike(0, true);
        two.run(24);
        Edge.that("one of two on strike", two.count(8), 3);
        CrossingMail village = Texts.loaded("village v;carrier k;route 127 1 v;carrier l;route 127 1 v;");
        village.run(2);
        Edge.that("two at a village", village.count(8), 0);
    }

    private static void numbersOfPlaces() {
        for (int promise : new int[] {8, 14}) {
            Edge.says(promise, "IndexOutOfBoundsException is thrown if a parameter named place, carrier, sack, letter or "
                + "lost is not the number of an existing one.");
            for (String text : new String[] {FULL, "village a;", "", "carrier a;carrier b;"}) {
                CrossingMail mail = Texts.loaded(text);
                int places = mail.count(0);
                Edge.throwsIndex("one more than the last of " + places,
                    () -> promise == 8 ? mail.isVillage(places) : mail.carriersAt(places));
                for (int place : WRONG) {
                    Edge.throwsIndex("place " + place,
                        () -> promise == 8 ? mail.isVillage(place) : mail.carriersAt(place));
                }
            }
        }
    }

    private static void numbersOfCarriers() {
        for (int promise : new int[] {10, 11, 12, 13}) {
            Edge.says(promise, "IndexOutOfBoundsException is thrown if a parameter named place, carrier, sack, letter or "
                + "lost is not the number of an existing one.");
            for (String text : new String[] {FULL, "village a;village b;carrier k;", "village a;", ""}) {
                CrossingMail mail = Texts.loaded(text);
                int carriers = mail.count(2);
                Edge.throwsIndex("one more than the last of " + carriers, () -> asked(mail, promise, carriers));
                for (int carrier : WRONG) {
                    Edge.throwsIndex("carrier " + carrier, () -> asked(mail, promise, carrier));
                }
            }
        }
    }

    private static Object asked(CrossingMail mail, int promise, int carrier) {
        switch (promise) {
            case 10:
                return mail.stop(carrier, 0, 0);
            case 11:
                return mail.placeOf(carrier);
            case 12:
                return mail.nextStop(carrier);
            default:
                return mail.isOnStrike(carrier);
        }
    }

    private static void isVillage() {
        Edge.says(8, "Returns true if the place is a village.");
        CrossingMail mail = Texts.loaded(FULL);
        StringBuilder villages = new StringBuilder();
        for (int place = 0; place < 10; place++) {
            villages.append(mail.isVillage(place) ? 'v' : 'c');
        }
        Edge.that("places 0 to 9", villages.toString(), "vvccvvvvvc");
    }

    private static int named(CrossingMail mail, String name) {
        Texts.fill(mail, name);
        return mail.placeNamed();
    }

    private static void placeNamed() {
        Edge.says(9, "Returns the place with the name that is the whole content of the buffer");
        CrossingMail mail = Texts.loaded(FULL);
        Edge.that("the first, the last, a crossing", named(mail, "a") + " " + named(mail, "j") + " " + named(mail, "c"),
            "0 9 2");
        Edge.that("six letters", named(mail, "abcdef"), 8);
        Edge.says(9, "`NONE` if there is none");
        String[] none = {"", "i", "abcde", "abcdeg", "bcdef", "abcdefa", "aabcdef", "p", " a", "a ", "a;", "a\n", "\0a", "a\0",
            "A", "aa", "ab", "0", "`", "{", "\u00e1", "abcdef ".repeat(9), "village a;", "\0"};
        for (String name : none) {
            Edge.that("'" + name + "'", named(mail, name), -1);
        }
        Edge.that("900 letters", named(mail, "a".repeat(900)), -1);
        Edge.that("no places", named(new CrossingMail(), "a") + " " + named(new CrossingMail(), ""), "-1 -1");
        CrossingMail twice = Texts.loaded("village aa;village a;village aaa;village z;");
        for (char sign = 0; sign < 256; sign++) {
            Edge.that("byte " + (int) sign, named(twice, "" + sign), sign == 'a' ? 1 : sign == 'z' ? 3 : -1);
            Edge.that("byte " + (int) sign + " before a", named(twice, sign + "a"), sign == 'a' ? 0 : -1);
            Edge.that("byte " + (int) sign + " behind a", named(twice, "a" + sign), sign == 'a' ? 0 : -1);
        }
        Texts.fill(mail, "village i;village");
        Check.outcome(mail::load);
        Edge.that("a name of a text that was wrong", named(mail, "i") + " " + named(mail, "a"), "-1 0");
        Texts.load(mail, "village i;");
        Edge.that("a name of the text before", named(mail, "a") + " " + named(mail, "i"), "-1 0");
    }

    private static void placeNamedEmptiesTheBuffer() {
        Edge.says(9, "which is empty afterwards");
        CrossingMail mail = Texts.loaded(FULL);
        for (String name : new String[] {"a", "abcdef", "i", "abcdefgh", "?", ""}) {
            named(mail, name);
            Edge.that("after '" + name + "'", mail.truncate(1), false);
        }
        Edge.that("and names nothing", mail.placeNamed(), -1);
    }

    private static void stopNumbers() {
        CrossingMail mail = Texts.loaded(FULL);
        Edge.says(10, "Returns 100 * the hour + the place of the k-th stop of the carrier on this weekday");
        StringBuilder stops = new StringBuilder();
        for (int k = 0; k < 6; k++) {
            stops.append(mail.stop(0, 0, k)).append(' ').append(mail.stop(4, 6, k)).append(' ');
        }
        Edge.that("six stops, k from 0", stops.toString(), "0 1800 101 1901 202 2002 303 2103 404 2204 505 2309 ");
        Edge.that("hour 0 and place 0, hour 23 and place 9", mail.stop(0, 0, 0) + " " + mail.stop(1, 6, 0), "0 2309");
        mail.strike(0, true);
        mail.run(50);
        Edge.that("whatever the time and strikes", mail.stop(0, 0, 1), 101);
        Edge.says(10, "`NONE` if there is none.");
        for (int k : new int[] {6, 7, -1, Integer.MIN_VALUE, Integer.MAX_VALUE}) {
            Edge.that("stop " + k + " of six", mail.stop(0, 0, k), -1);
        }
        Edge.that("another weekday", mail.stop(0, 1, 0) + " " + mail.stop(0, 6, 0) + " " + mail.stop(1, 0, 0), "-1 -1 -1");
        Edge.that("no routes", mail.stop(3, 0, 0), -1);
    }

    private static void stopWeekdays() {
        CrossingMail mail = Texts.loaded(FULL);
        Edge.says(10, "if weekday is not 0 to 6");
        for (int weekday : new int[] {-1, 7, 8, Integer.MIN_VALUE, Integer.MAX_VALUE}) {
            Edge.throwsNoSuch("weekday " + weekday, () -> mail.stop(0, weekday, 0));
            Edge.throwsNoSuch("weekday " + weekday + " and k -1", () -> mail.stop(3, weekday, -1));
        }
        Edge.that("weekdays 0 and 6", mail.stop(2, 0, 0) + " " + mail.stop(2, 6, 2), "2 2309");
        Edge.says(10, "When several exceptions apply, the one that is listed first in the method's throws clause is thrown.");
        Edge.throwsIndex("carrier and weekday", () -> mail.stop(5, 7, 0));
        Edge.throwsIndex("carrier and weekday below", () -> mail.stop(-1, -1, 0));
    }

    private static void placeOfPresentHour() {
        CrossingMail mail = Texts.loaded(FULL);
        Edge.says(11, "Returns the place at which the carrier is when the present hour is processed");
        Edge.that("hour 0", mail.placeOf(0) + " " + mail.placeOf(2), "0 2");
        mail.run(1);
        Edge.that("hour 1, and not the hour that was processed", mail.placeOf(0), 1);
        mail.run(166);
        Edge.that("place 9 in hour 167", mail.count(7) + " " + mail.placeOf(1) + " " + mail.placeOf(4), "167 9 9");
        Edge.says(11, "`NONE` if it is under way.");
        Edge.that("no stop in this hour", mail.placeOf(0) + " " + mail.placeOf(3), "-1 -1");
        Edge.says(11, "and is not on strike, is at the place of this stop; all others are under way");
        mail.strike(1, true);
        Edge.that("on strike", mail.placeOf(1) + " " + mail.placeOf(4), "-1 9");
        mail.strike(1, false);
        Edge.that("works again", mail.placeOf(1), 9);
    }

    private static void weekdaysWrapAround() {
        Edge.says(11, "hour t belongs to day t / 24 (rounded down), and day d has the weekday d modulo 7");
        CrossingMail mail = Texts.loaded("village a;village b;carrier k;route 1 0 a 23 b;route 2 0 b 23 a;route 64 0 a 23 a;");
        Edge.that("hour 0", mail.placeOf(0), 0);
        mail.run(23);
        Edge.that("hour 23", mail.placeOf(0), 1);
        mail.run(1);
        Edge.that("hour 24", mail.placeOf(0), 1);
        mail.run(143);
        Edge.that("hour 167", mail.placeOf(0), 0);
        mail.run(1);
        Edge.that("hour 168", mail.placeOf(0), 0);
        mail.run(23);
        Edge.that("hour 191", mail.placeOf(0), 1);
        for (int week = 0; week < 100; week++) {
            mail.run(168);
        }
        Edge.that("a hundred weeks later", mail.count(7) + " " + mail.placeOf(0), "16991 1");
        mail.run(2);
        Edge.that("under way", mail.placeOf(0), -1);
    }

    private static void nextStop() {
        CrossingMail mail = Texts.loaded(FULL);
        Edge.says(12, "the next hour, at least the present one, in which the carrier has a stop");
        Edge.that("the present hour", mail.nextStop(0) + " " + mail.nextStop(2), "0 0");
        Edge.that("the last hour of the week", mail.nextStop(1), 167);
        mail.run(1);
        Edge.that("the next hour, and the hour behind it", mail.nextStop(0) + " " + mail.nextStop(2), "0 1");
        mail.run(5);
        Edge.that("over the end of the week", mail.nextStop(0), 162);
        mail.run(161);
        Edge.that("hour 167", mail.nextStop(0) + " " + mail.nextStop(1), "1 0");
        mail.run(1);
        Edge.that("hour 168: a week but an hour", mail.nextStop(1), 167);
        Edge.says(12, "(whether it is on strike or not)");
        mail.strike(0, true);
        Edge.that("on strike", mail.nextStop(0), 0);
        Edge.says(12, "`NONE` if it has no routes");
        Edge.that("no routes", mail.nextStop(3), -1);
    }

    private static void isOnStrike() {
        Edge.says(13, "Returns true if the carrier is on strike.");
        CrossingMail mail = Texts.loaded(FULL);
        for (int carrier = 0; carrier < 5; carrier++) {
            mail.strike(carrier, true);
            StringBuilder striking = new StringBuilder();
            for (int other = 0; other < 5; other++) {
                striking.append(mail.isOnStrike(other) ? 1 : 0);
            }
            Edge.that("carrier " + carrier + " alone", striking.toString(),
                "0".repeat(carrier) + "1" + "0".repeat(4 - carrier));
            mail.strike(carrier, false);
        }
    }

    private static void carriersAt() {
        Edge.says(14, "Returns the set of the carriers that have a stop at the place on some weekday, as a bit set "
            + "(bit k stands for carrier k).");
        CrossingMail mail = Texts.loaded(FULL);
        mail.strike(4, true);
        mail.run(7);
        StringBuilder sets = new StringBuilder();
        for (int place = 0; place < 10; place++) {
            sets.append(mail.carriersAt(place)).append(' ');
        }
        Edge.that("places 0 to 9, on strike or not", sets.toString(), "17 17 21 17 17 1 0 0 0 22 ");
    }

    private static void meetings() {
        Edge.says(15, "Returns the number of pairs of an hour of a week and a crossing at which at least two carriers have "
            + "a stop then (whether they are on strike or not).");
        CrossingMail mail = Texts.loaded(FULL);
        Edge.that("the third hour of the week and its last one", mail.meetings(), 2);
        for (int carrier = 0; carrier < 5; carrier++) {
            mail.strike(carrier, true);
        }
        mail.run(168);
        Edge.that("all on strike", mail.meetings() + " " + mail.count(8), "2 0");
        Edge.that("a carrier alone", Texts.loaded("crossing x;carrier k;route 127 1 x 2 x;carrier l;route 127 3 x;").meetings(),
            0);
        Edge.that("at a village", Texts.loaded("village x;carrier k;route 127 1 x;carrier l;route 127 1 x;").meetings(), 0);
        Edge.that("three carriers are one pair", Texts.loaded("crossing x;carrier k;route 1 0 x;carrier l;route 1 0 x;"
            + "carrier m;route 1 0 x;").meetings(), 1);
        Edge.that("two crossings in an hour", Texts.loaded("crossing x;crossing y;carrier k;route 64 23 x;carrier l;"
            + "route 64 23 x;carrier m;route 64 23 y;carrier n;route 64 23 y;").meetings(), 2);
        Edge.that("two hours of each weekday", Texts.loaded("crossing x;carrier k;route 127 0 x 1 x;carrier l;"
            + "route 127 0 x 1 x;").meetings(), 14);
    }
}
