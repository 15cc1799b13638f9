/** Promises 16 to 28: each sentence of the document that names a boundary of sacks, offices and letters. */
public final class EdgesLettersTest {
    private static final String AB = "village a;village b;";
    private static final String MEETING = AB + "village c;crossing x;crossing y;";
    private static final int[] WRONG = {-1, Integer.MIN_VALUE, Integer.MAX_VALUE, 31, 32, 33, 64, -32};

    private EdgesLettersTest() {
    }

    public static void main(String[] args) {
        wrongNumbers();
        firstSacks();
        swapsOfSacks();
        oneSackEach();
        sackCount();
        sackLetter();
        sackValue();
        officeCount();
        officeLetter();
        letterWhat();
        letterParts();
        letterWhere();
        letterPromised();
        trace();
        suspects();
        isLateOnTheWay();
        isLateInAHand();
        neverLate();
        lettersOfWhat();
        lettersOfAll();
        punctuality();
        Edge.done("EdgesLettersTest", 16, 17, 18, 19, 20, 21, 22, 23, 24, 25, 26, 27, 28);
    }

    private static Object asked(CrossingMail mail, int promise, int number) {
        switch (promise) {
            case 16:
                return mail.sackOf(number);
            case 17:
                return mail.carrierOf(number);
            case 18:
                return mail.sackCount(number);
            case 19:
                return mail.sackLetter(number, 0);
            case 20:
                return mail.sackValue(number);
            case 21:
                return mail.officeCount(number);
            case 22:
                return mail.officeLetter(number, 0);
            case 23:
                return mail.letter(number, 0);
            case 24:
                return mail.trace(number);
            case 25:
                return mail.suspects(number);
            default:
                return mail.isLate(number);
        }
    }

    private static void wrongNumbers() {
        for (int promise = 16; promise <= 26; promise++) {
            Edge.says(promise, "IndexOutOfBoundsException is thrown if a parameter named place, carrier, sack, letter or "
                + "lost is not the number of an existing one.");
            for (String text : new String[] {"", AB, MEETING + "carrier k;", AB + "letter a b;", AB + "carrier k;carrier l;"
                + "carrier m;carrier n;carrier o;" + "letter a b;".repeat(30)}) {
                CrossingMail mail = Texts.loaded(text);
                int number = promise < 21 ? mail.count(2) : promise < 23 ? mail.count(0) : mail.count(3);
                int asks = promise;
                if (number > 0) {
                    Edge.that("the last one of " + number + " throws",
                        Check.outcome(() -> asked(mail, asks, number - 1)) instanceof String, false);
                }
                Edge.throwsIndex("one more than the last one of " + number, () -> asked(mail, asks, number));
                for (int wrong : WRONG) {
                    Edge.throwsIndex("number " + wrong, () -> asked(mail, asks, wrong));
                }
            }
        }
    }

    private static String sacks(CrossingMail mail) {
        StringBuilder text = new StringBuilder();
        for (int carrier = 0; carrier < mail.count(2); carrier++) {
            text.append(mail.sackOf(carrier));
        }
        return text.toString();
    }

    private static String carriers(CrossingMail mail) {
        StringBuilder text = new StringBuilder();
        for (int sack = 0; sack < mail.count(2); sack++) {
            text.append(mail.carrierOf(sack));
        }
        return text.toString();
    }

    private static void firstSacks() {
        CrossingMail mail = Texts.loaded("carrier k;carrier l;carrier m;carrier n;carrier o;");
        Edge.says(16, "at first carrier k has sack k");
        Edge.that("five carriers", sacks(mail), "01234");
        Edge.says(17, "at first carrier k has sack k");
        Edge.that("five sacks", carriers(mail), "01234");
    }

    private static void swapsOfSacks() {
        Edge.says(16, "each of them gets the sack that the next one by number had, and the last one the sack that the first "
            + "one had");
        String five = "crossing x;carrier k;route 127 1 x;carrier l;route 127 1 x;carrier m;route 127 1 x;carrier n;"
            + "route 127 1 x;carrier o;route 127 1 x;";
        CrossingMail mail = Texts.loaded(five);
        mail.run(2);
        Edge.that("five", sacks(mail), "12340");
        mail.run(24);
        Edge.that("five again", sacks(mail), "23401");
        mail.strike(1, true);
        mail.strike(2, true);
        mail.run(24);
        Edge.that("three of them, and two on strike", sacks(mail), "03412");
        CrossingMail two = Texts.loaded("crossing x;carrier k;carrier l;route 1 1 x;carrier m;carrier n;carrier o;route 1 1 x;");
        two.run(2);
        Edge.that("two that do not stand side by side", sacks(two), "04231");
        Edge.says(16, "at each crossing, by number, at which at least two carriers are");
        CrossingMail alone = Texts.loaded("village v;crossing x;carrier k;route 127 1 x 2 v;carrier l;route 127 2 v;");
        alone.run(24);
        Edge.that("one alone, and two at a village", sacks(alone), "01");
    }

    private static void oneSackEach() {
        Edge.says(17, "Returns the carrier that has the sack.");
        CrossingMail mail = Texts.loaded("crossing x;carrier k;route 1 1 x;carrier l;carrier m;route 1 1 x;carrier n;"
            + "carrier o;route 1 1 x;");
        mail.run(2);
        Edge.that("sacks and carriers", sacks(mail) + " " + carriers(mail), "21430 " + "41032");
        mail.lose(0);
        Edge.says(17, "the carrier has an empty sack with the same number");
        Edge.that("after a loss", sacks(mail) + " " + carriers(mail), "21430 41032");
        Edge.says(17, "Each carrier always has just one sack");
        CrossingMail week = Texts.loaded("crossing x;crossing y;carrier k;route 127 1 x 3 y;carrier l;route 85 1 x 2 x 4 y;"
            + "carrier m;route 127 1 y 2 x 3 y 4 y;carrier n;route 106 1 y 2 x 3 x;carrier o;route 31 1 x 3 x 4 y;");
        for (int hour = 0; hour < 168; hour++) {
            week.run(1);
            StringBuilder own = new StringBuilder();
            for (int carrier = 0; carrier < 5; carrier++) {
                own.append(week.carrierOf(week.sackOf(carrier)));
            }
            Edge.that("five carriers, five sacks, at " + hour, own.toString(), "01234");
        }
        Edge.that("swaps in this week", week.count(8) > 20, true);
    }

    private static String letterNumbers(CrossingMail mail, int sack, int most) {
        StringBuilder text = new StringBuilder();
        for (int k = 0; k <= most; k++) {
            text.append(mail.sackLetter(sack, k)).append(' ');
        }
        return text.toString();
    }

    private static void sackCount() {
        Edge.says(18, "Returns the number of letters in the sack.");
        CrossingMail mail = Texts.loaded(AB + "capacity 20;carrier k;route 127 1 a 2 b;" + "letter a b;".repeat(21));
        Edge.that("empty", mail.sackCount(0), 0);
        mail.run(2);
        Edge.that("twenty of 21", mail.sackCount(0), 20);
        mail.setCapacity(1);
        Edge.that("more than the capacity of now", mail.sackCount(0), 20);
        mail.lose(0);
        Edge.that("lost", mail.sackCount(0), 0);
    }

    private static void sackLetter() {
        CrossingMail mail = Texts.loaded(MEETING + "carrier k;route 127 1 a 3 b 5 c;letter b c;letter a c;letter a b;letter b c;"
            + "letter a c;");
        mail.run(2);
        Edge.says(19, "Returns the k-th letter, by number, in the sack");
        Edge.that("k from 0", letterNumbers(mail, 0, 2), "1 2 4 ");
        mail.run(2);
        Edge.that("by number, not by the time in the sack", letterNumbers(mail, 0, 3), "0 1 3 4 ");
        Edge.says(19, "`NONE` if there is none.");
        Edge.that("behind the last one", mail.sackLetter(0, 4), -1);
        Edge.that("k below 0", mail.sackLetter(0, -1) + " " + mail.sackLetter(0, Integer.MIN_VALUE), "-1 -1");
        Edge.that("the greatest k", mail.sackLetter(0, Integer.MAX_VALUE), -1);
        mail.run(2);
        Edge.that("an empty sack", mail.sackLetter(0, 0), -1);
    }

    private static void sackValue() {
        Edge.says(20, "Returns the sum of the values of the letters in the sack.");
        CrossingMail mail = Texts.loaded(AB + "capacity 20;carrier k;route 127 1 a 2 b;carrier l;letter a b insured 5;letter b a;"
            + "letter a b;letter a b insured 7;");
        Edge.that("empty", mail.sackValue(0), 0);
        mail.run(2);
        Edge.that("three of four letters", mail.sackValue(0) + " " + mail.sackValue(1), "12 0");
        for (int letter = 0; letter < 26; letter++) {
            mail.post(0, 1, 999);
        }
        mail.run(24);
        Edge.that("twenty of 999", mail.sackValue(0), 20 * 999);
    }

    private static void officeCount() {
        Edge.says(21, "Returns the number of letters in the office of the place; 0 for a crossing.");
        CrossingMail mail = Texts.loaded("crossing x;" + AB + "crossing y;" + "letter b a;".repeat(29) + "letter a b;");
        Edge.that("29 and 1", mail.officeCount(2) + " " + mail.officeCount(1), "29 1");
        Edge.that("crossings", mail.officeCount(0) + " " + mail.officeCount(3), "0 0");
        CrossingMail met = Texts.loaded(Texts.VALLEY);
        met.run(11);
        Edge.that("a crossing behind a swap", met.officeCount(3) + " " + met.officeLetter(3, 0), "0 -1");
        met.run(24);
        Edge.that("a letter in a hand is in no office", met.officeCount(1) + " " + met.officeCount(2), "0 0");
    }

    private static void officeLetter() {
        CrossingMail mail = Texts.loaded("crossing x;" + AB + "letter a b;letter b a;letter a b;");
        Edge.says(22, "Returns the k-th letter, by number, in the office of the place");
        Edge.that("k from 0", mail.officeLetter(1, 0) + " " + mail.officeLetter(1, 1) + " " + mail.officeLetter(2, 0), "0 2 1");
        Edge.says(22, "`NONE` if there is none.");
        Edge.that("behind the last one", mail.officeLetter(1, 2) + " " + mail.officeLetter(2, 1), "-1 -1");
        Edge.that("k below 0", mail.officeLetter(1, -1) + " " + mail.officeLetter(1, Integer.MIN_VALUE), "-1 -1");
        Edge.that("the greatest k", mail.officeLetter(1, Integer.MAX_VALUE), -1);
        Edge.that("a crossing", mail.officeLetter(0, 0), -1);
        for (int letter = 3; letter < 30; letter++) {
            mail.post(1, 2, 0);
        }
        Edge.that("29 letters", mail.officeLetter(1, 28) + " " + mail.officeLetter(1, 29), "29 -1");
    }

    private static void letterWhat() {
        CrossingMail mail = Texts.loaded(AB + "letter b a;");
        Edge.says(23, "if what is not 0 to 8");
        for (int what : new int[] {-1, 9, Integer.MIN_VALUE, Integer.MAX_VALUE}) {
            Edge.throwsNoSuch("what " + what, () -> mail.letter(0, what));
        }
        Edge.says(23, "When several exceptions apply, the one that is listed first in the method's throws clause is thrown.");
        Edge.throwsIndex("letter and what", () -> mail.letter(1, 9));
        Edge.throwsIndex("letter and what below", () -> mail.letter(-1, -1));
    }

    private static String parts(CrossingMail mail, int letter) {
        StringBuilder text = new StringBuilder();
        for (int what = 0; what < 9; what++) {
            text.append(mail.letter(letter, what)).append(what < 8 ? " " : "");
        }
        return text.toString();
    }

    private static void letterParts() {
        Edge.says(23, "5 the hour at which it was posted, 6 its promised hour (`NONE` without one), 7 the hour since which it "
            + "is in a hand (`NONE` if it is in none), 8 is 1 if it was claimed and 0 otherwise");
        CrossingMail mail = Texts.loaded("village c;" + AB + "carrier k;route 127 1 a 2 b;");
        mail.run(24);
        mail.post(1, 2, 999);
        mail.post(2, 0, 0);
        Edge.that("posted", parts(mail, 0) + ", " + parts(mail, 1), "1 2 999 0 1 24 26 -1 0, 2 0 0 0 2 24 -1 -1 0");
        mail.run(2);
        mail.lose(0);
        mail.run(72);
        mail.claim(0);
        Edge.that("lost and claimed", parts(mail, 0), "1 2 999 3 0 24 26 -1 1");
        mail.find(0, 2);
        Edge.that("in a hand", parts(mail, 0), "1 2 999 2 2 24 26 98 1");
        CrossingMail first = Texts.loaded(AB + "carrier k;route 127 0 a 1 b;letter a b;");
        first.run(2);
        Edge.that("in a hand since the hour that was processed, and not its end", first.letter(0, 7), 1);
    }

    private static void letterWhere() {
        Edge.says(23, "4 where it is: the village of its office or hand, its sack, or its lost sack");
        CrossingMail mail = Texts.loaded(MEETING + "carrier k;route 127 1 a 2 x;carrier l;route 127 2 x 3 b 4 c;letter a c;"
            + "letter a b;letter b c;");
        Edge.that("office", mail.letter(2, 3) + " " + mail.letter(2, 4), "0 1");
        mail.run(2);
        Edge.that("sack", mail.letter(0, 3) + " " + mail.letter(0, 4), "1 0");
        mail.run(1);
        Edge.that("the sack, not the carrier, after a swap", mail.letter(0, 4) + " " + mail.sackOf(1), "0 0");
        mail.run(1);
        Edge.that("hand", mail.letter(1, 3) + " " + mail.letter(1, 4), "2 1");
        mail.lose(1);
        Edge.that("lost sack", mail.letter(0, 3) + " " + mail.letter(0, 4) + " " + mail.letter(2, 4), "3 0 0");
        mail.find(0, 0);
        Edge.that("office where it was found", mail.letter(0, 3) + " " + mail.letter(0, 4), "0 0");
    }

    private static void letterPromised() {
        Edge.says(23, "The promised hour of a letter is its arrival when it is posted");
        CrossingMail mail = Texts.loaded(AB + "carrier k;route 127 1 a 2 b;carrier l;route 127 1 a 5 b;letter a b;");
        mail.strike(0, true);
        mail.setCapacity(1);
        Edge.that("a later strike changes nothing", mail.letter(0, 6) + " " + mail.letter(mail.post(0, 1, 0), 6), "2 5");
        mail.run(168);
        Edge.that("nor does the time", mail.letter(0, 6) + " " + mail.letter(1, 6), "2 5");
        Edge.says(23, "if from the present hour (which is not processed yet) on it is in the office of its village alone");
        CrossingMail now = Texts.loaded(AB + "carrier k;route 127 1 a 2 b;");
        now.run(1);
        now.post(0, 1, 0);
        now.run(1);
        now.post(0, 1, 0);
        Edge.that("in the hour of the stop, and behind it", now.letter(0, 6) + " " + now.letter(1, 6), "2 26");
    }

    private static void trace() {
        Edge.says(24, "Returns the set of the carriers in whose sacks the letter has been (also by swaps), as a bit set.");
        CrossingMail mail = Texts.loaded(MEETING + "carrier k;carrier l;route 127 1 a 2 x 6 a;carrier m;route 127 2 x 3 x;"
            + "carrier n;carrier o;route 127 3 x 4 b;letter a b;letter b a;");
        Edge.that("in an office", mail.trace(0), 0);
        mail.run(2);
        Edge.that("the sack of carrier 1", mail.trace(0), 2);
        mail.run(1);
        Edge.that("swapped to carrier 2", mail.trace(0), 6);
        mail.run(1);
        Edge.that("swapped to carrier 4", mail.trace(0), 22);
        mail.lose(4);
        mail.find(0, 0);
        Edge.that("lost and found", mail.letter(0, 3) + " " + mail.trace(0), "0 22");
        Edge.that("never in a sack", mail.trace(1), 0);
        mail.undo();
        mail.undo();
        mail.run(1);
        Edge.that("in a hand", mail.letter(0, 3) + " " + mail.trace(0), "2 22");
        CrossingMail passed = Texts.loaded(MEETING + "carrier k;route 127 1 a 5 b;carrier l;route 127 1 a 4 c 6 b;letter a b;");
        passed.run(6);
        Edge.that("a sack that it could have taken does not count", passed.letter(0, 3) + " " + passed.trace(0), "2 1");
        CrossingMail change = Texts.loaded(MEETING + "carrier k;route 127 1 a 2 c;carrier l;route 127 2 c 3 b;letter a b;");
        change.run(4);
        Edge.that("changed at a village", change.letter(0, 3) + " " + change.trace(0) + " " + change.letters(8), "2 3 1");
        CrossingMail first = Texts.loaded(MEETING + "carrier k;route 127 1 a 2 b;letter a b;");
        first.run(2);
        Edge.that("carrier 0", first.trace(0), 1);
    }

    private static void suspects() {
        CrossingMail mail = Texts.loaded(MEETING + "carrier k;carrier l;route 127 1 a 2 x;carrier m;route 127 2 x 8 b;"
            + "letter a b;letter a b insured 1;letter b a;");
        Edge.says(25, "0 if it is in none");
        Edge.that("office", mail.suspects(0) + " " + mail.suspects(1), "0 0");
        mail.run(3);
        Edge.that("sack", mail.suspects(0) + " " + mail.suspects(1), "0 0");
        mail.lose(2);
        Edge.says(25, "the carrier of this lost sack alone, if it is insured, and otherwise all carriers of its trace");
        Edge.that("insured or not", mail.suspects(1) + " " + mail.suspects(0) + " " + mail.suspects(2), "4 6 0");
        mail.strike(1, true);
        mail.run(24);
        Edge.that("it stays so", mail.suspects(1) + " " + mail.suspects(0), "4 6");
        mail.find(0, 0);
        Edge.says(25, "0 if it is in none");
        Edge.that("found in an office", mail.suspects(1) + " " + mail.suspects(0), "0 0");
        mail.undo();
        mail.find(0, 1);
        Edge.that("found in a hand", mail.suspects(1) + " " + mail.suspects(0), "0 0");
        CrossingMail first = Texts.loaded(AB + "carrier k;route 127 1 a 2 b;letter a b insured 1;");
        first.run(2);
        first.lose(0);
        Edge.says(25, "as a bit set");
        Edge.that("carrier 0", first.suspects(0), 1);
    }

    private static void isLateOnTheWay() {
        Edge.says(26, "or if it is in no hand and the present time is greater than the promised hour");
        CrossingMail office = Texts.loaded(AB + "carrier k;route 127 1 a 2 b;letter a b;");
        office.strike(0, true);
        office.run(2);
        Edge.that("in an office at the promised hour", office.count(7) + " " + office.isLate(0), "2 false");
        office.run(1);
        Edge.that("in an office an hour later", office.count(7) + " " + office.isLate(0), "3 true");
        CrossingMail sack = Texts.loaded(AB + "carrier k;route 127 1 a 2 b;letter a b;");
        sack.run(2);
        sack.strike(0, true);
        Edge.that("in a sack at the promised hour", sack.letter(0, 3) + " " + sack.isLate(0), "1 false");
        sack.run(1);
        Edge.that("in a sack an hour later", sack.letter(0, 3) + " " + sack.isLate(0), "1 true");
        CrossingMail lost = Texts.loaded(AB + "carrier k;route 127 1 a 2 b;letter a b;");
        lost.run(2);
        lost.lose(0);
        Edge.that("lost at the promised hour", lost.letter(0, 3) + " " + lost.isLate(0), "3 false");
        lost.run(1);
        Edge.that("lost an hour later", lost.letter(0, 3) + " " + lost.isLate(0), "3 true");
    }

    private static void isLateInAHand() {
        Edge.says(26, "A letter is late if it is in a hand since a later hour than the promised one");
        CrossingMail mail = Texts.loaded(AB + "carrier k;route 127 1 a 2 b 3 a 4 b;letter a b;");
        mail.run(168);
        Edge.that("since the promised hour", mail.letter(0, 7) + " " + mail.isLate(0), "2 false");
        CrossingMail found = Texts.loaded(AB + "carrier k;route 127 1 a 2 b;letter a b;letter a b;");
        found.run(2);
        found.lose(0);
        found.find(0, 1);
        Edge.that("found at the promised hour", found.letter(0, 7) + " " + found.isLate(0), "2 false");
        found.run(1);
        Edge.that("and not late afterwards", found.isLate(0), false);
        found.undo();
        found.undo();
        found.run(1);
        found.find(0, 1);
        Edge.that("found an hour later", found.letter(0, 7) + " " + found.isLate(0), "3 true");
        CrossingMail full = Texts.loaded(AB + "capacity 1;carrier k;route 127 1 a 2 b 3 a 4 b;letter a b;letter a b;");
        full.run(5);
        Edge.that("no room for the second one", full.letter(1, 7) + " " + full.isLate(0) + " " + full.isLate(1), "4 false true");
    }

    private static void neverLate() {
        Edge.says(26, "A letter without a promised hour is never late.");
        CrossingMail mail = Texts.loaded(AB + "carrier k;route 127 1 a 2 b;letter b a;");
        mail.strike(0, true);
        mail.post(0, 1, 0);
        mail.run(168);
        Edge.that("in an office", mail.letter(1, 6) + " " + mail.isLate(1), "-1 false");
        mail.strike(0, false);
        mail.run(2);
        Edge.that("in a sack", mail.letter(1, 3) + " " + mail.isLate(1), "1 false");
        mail.lose(0);
        Edge.that("in a lost sack", mail.letter(1, 3) + " " + mail.isLate(1), "3 false");
        mail.find(0, 1);
        Edge.that("in a hand", mail.letter(1, 3) + " " + mail.isLate(1), "2 false");
    }

    private static void lettersOfWhat() {
        Edge.says(27, "if what is not 0 to 8");
        for (String text : new String[] {"", Texts.VALLEY}) {
            CrossingMail mail = Texts.loaded(text);
            for (int what : new int[] {-1, 9, Integer.MIN_VALUE, Integer.MAX_VALUE}) {
                Edge.throwsNoSuch("what " + what, () -> mail.letters(what));
            }
        }
        Edge.says(27, "Returns the number of letters of which this is true.");
        CrossingMail none = Texts.loaded(AB);
        for (int what = 0; what < 9; what++) {
            Edge.that("no letters, what " + what, none.letters(what), 0);
        }
    }

    private static String numbers(CrossingMail mail) {
        StringBuilder text = new StringBuilder();
        for (int what = 0; what < 9; what++) {
            text.append(mail.letters(what)).append(what < 8 ? " " : "");
        }
        return text.toString();
    }

    private static void lettersOfAll() {
        Edge.says(27, "0 in an office, 1 in a sack, 2 in a hand, 3 in a lost sack, 4 insured, 5 late, 6 without a promised hour, "
            + "7 claimed, 8 swapped: of whose trace at least two carriers are");
        CrossingMail mail = Texts.loaded(MEETING + "capacity 20;carrier k;route 127 1 a 2 x;carrier l;route 127 2 x 3 b;"
            + "letter b c;".repeat(3) + "letter a b;".repeat(5) + "letter a b insured 1;".repeat(6));
        Edge.that("posted", numbers(mail), "14 0 0 0 6 0 3 0 0");
        mail.run(2);
        Edge.that("one carrier in the trace", numbers(mail), "3 11 0 0 6 0 3 0 0");
        mail.run(1);
        Edge.that("two carriers in the trace", numbers(mail), "3 11 0 0 6 0 3 0 11");
        mail.lose(1);
        Edge.that("lost", numbers(mail), "3 0 0 11 6 0 3 0 11");
        mail.run(72);
        mail.claim(8);
        mail.claim(13);
        Edge.that("claimed, and late", numbers(mail), "3 0 0 11 6 11 3 2 11");
        mail.find(0, 1);
        Edge.that("in hands", numbers(mail), "3 0 11 0 6 11 3 2 11");
        for (int letter = 14; letter < 30; letter++) {
            mail.post(0, 1, 999);
        }
        Edge.that("thirty letters", numbers(mail), "19 0 11 0 22 11 3 2 11");
    }

    private static void punctuality() {
        Edge.says(28, "0.0 if none is in a hand");
        CrossingMail mail = Texts.loaded(AB + "capacity 1;carrier k;route 127 1 a 2 b 3 a 4 b 5 a 6 b;letter a b;letter a b;"
            + "letter a b;");
        Edge.that("none", mail.punctuality() + " " + Texts.loaded("").punctuality(), "0.0 0.0");
        Edge.says(28, "Returns the number of letters in hands that are not late, as a double, divided by the number of letters "
            + "in hands");
        mail.run(4);
        Edge.that("one of one; those in no hand do not count", mail.punctuality(), 1.0);
        mail.run(1);
        Edge.that("one of two", mail.punctuality(), 0.5);
        mail.run(2);
        Edge.that("one of three", mail.punctuality(), 1.0 / 3.0);
        CrossingMail most = Texts.loaded(AB + "capacity 20;carrier k;route 127 1 a 2 b;" + "letter a b;".repeat(30));
        most.run(48);
        Edge.that("thirty letters", most.letters(2) + " " + most.punctuality(), "30 " + 20.0 / 30.0);
        CrossingMail late = Texts.loaded(AB + "carrier k;route 127 1 a 2 b;letter a b;");
        late.strike(0, true);
        late.run(3);
        Edge.that("late in an office", late.letters(5) + " " + late.punctuality(), "1 0.0");
        late.strike(0, false);
        late.run(24);
        Edge.that("none of one", late.letters(2) + " " + late.punctuality(), "1 0.0");
    }
}
