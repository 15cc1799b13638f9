import java.util.NoSuchElementException;

/** Promises 16 to 28: where letters are, and what is asked of them. */
public final class LettersTest {
    private static final String ABH = "village a;village b;village h;crossing x;";

    private LettersTest() {
    }

    public static void main(String[] args) {
        sacks();
        swapOfThree();
        sackCounts();
        offices();
        letter();
        trace();
        suspects();
        isLate();
        letters();
        punctuality();
        fastestSack();
        lowestSackOfSeveral();
        lowestSackWithoutSwap();
        fullSacks();
        sackOrOffice();
        wrongNumbers();
        Check.done("LettersTest");
    }

    private static void sacks() {
        CrossingMail mail = Texts.loaded(Texts.VALLEY);
        Check.that("sacks at first", mail.sackOf(0) + " " + mail.sackOf(1), "0 1");
        mail.run(10);
        Check.that("sacks before the swap", mail.sackOf(0) + " " + mail.carrierOf(1), "0 1");
        mail.run(1);
        Check.that("sacks after the swap", mail.sackOf(0) + " " + mail.sackOf(1), "1 0");
        Check.that("carriers after the swap", mail.carrierOf(0) + " " + mail.carrierOf(1), "1 0");
        mail.run(24);
        Check.that("sacks after the second swap", mail.sackOf(0) + " " + mail.carrierOf(0), "0 0");
    }

    private static void swapOfThree() {
        String text = "crossing x;carrier p;route 127 5 x;carrier q;carrier r;route 127 5 x;carrier s;route 127 5 x;";
        CrossingMail mail = Texts.loaded(text);
        mail.run(6);
        Check.that("each one gets the sack of the next one, the last one that of the first one",
            mail.sackOf(0) + " " + mail.sackOf(1) + " " + mail.sackOf(2) + " " + mail.sackOf(3), "2 1 3 0");
        Check.that("and so have the sacks their carriers",
            mail.carrierOf(0) + " " + mail.carrierOf(1) + " " + mail.carrierOf(2) + " " + mail.carrierOf(3), "3 1 0 2");
        mail.strike(2, true);
        mail.run(24);
        Check.that("one on strike keeps its sack", mail.sackOf(0) + " " + mail.sackOf(2) + " " + mail.sackOf(3),
            "0 3 2");
    }

    private static void sackCounts() {
        CrossingMail mail = Texts.loaded(Texts.VALLEY);
        Check.that("sacks are empty at first", mail.sackCount(0) + " " + mail.sackValue(0) + " " + mail.sackLetter(0, 0),
            "0 0 -1");
        mail.run(11);
        Check.that("letters in sacks", mail.sackCount(0) + " " + mail.sackCount(1), "2 1");
        Check.that("letters in sack 0", mail.sackLetter(0, 0) + " " + mail.sackLetter(0, 1) + " "
            + mail.sackLetter(0, 2) + " " + mail.sackLetter(0, -1), "0 1 -1 -1");
        Check.that("letter in sack 1", mail.sackLetter(1, 0) + " " + mail.sackLetter(1, 1), "2 -1");
        Check.that("extreme k", mail.sackLetter(0, Integer.MAX_VALUE) + " " + mail.sackLetter(0, Integer.MIN_VALUE),
            "-1 -1");
        Check.that("values", mail.sackValue(0) + " " + mail.sackValue(1), "50 7");
        mail.run(4);
        Check.that("empty again", mail.sackCount(0) + " " + mail.sackValue(0), "0 0");
    }

    private static void offices() {
        CrossingMail mail = Texts.loaded(Texts.VALLEY);
        Check.that("offices", mail.officeCount(0) + " " + mail.officeCount(1) + " " + mail.officeCount(2) + " "
            + mail.officeCount(3), "2 0 1 0");
        Check.that("office of a", mail.officeLetter(0, 0) + " " + mail.officeLetter(0, 1) + " "
            + mail.officeLetter(0, 2) + " " + mail.officeLetter(0, -1), "0 1 -1 -1");
        Check.that("office of c", mail.officeLetter(2, 0) + " " + mail.officeLetter(2, 1), "2 -1");
        Check.that("a crossing", mail.officeLetter(3, 0), -1);
        mail.run(9);
        Check.that("the office of a is empty", mail.officeCount(0) + " " + mail.officeLetter(0, 0), "0 -1");
    }

    private static String all(CrossingMail mail, int letter) {
        StringBuilder text = new StringBuilder();
        for (int what = 0; what < 9; what++) {
            text.append(what == 0 ? "" : " ").append(mail.letter(letter, what));
        }
        return text.toString();
    }

    private static void letter() {
        CrossingMail mail = Texts.loaded(Texts.VALLEY);
        Check.that("letter 0 at first", all(mail, 0), "0 2 0 0 0 0 14 -1 0");
        Check.that("letter 2 at first", all(mail, 2), "2 1 7 0 2 0 12 -1 0");
        mail.run(11);
        Check.that("letter 1 in a sack", all(mail, 1), "0 2 50 1 0 0 14 -1 0");
        mail.lose(1);
        Check.that("letter 1 in a lost sack", all(mail, 1), "0 2 50 3 0 0 14 -1 0");
        mail.run(72);
        mail.claim(1);
        Check.that("letter 1 claimed", all(mail, 1), "0 2 50 3 0 0 14 -1 1");
        mail.find(0, 1);
        Check.that("letter 1 in the office of b", all(mail, 1), "0 2 50 0 1 0 14 -1 1");
        Check.that("letter 2 in a hand", all(mail, 2), "2 1 7 2 1 0 12 12 0");
        mail.post(1, 0, 999);
        Check.that("letter 3", all(mail, 3), "1 0 999 0 1 83 104 -1 0");
        CrossingMail alone = Texts.loaded("village a;village b;letter b a;");
        Check.that("a letter without a promised hour", all(alone, 0), "1 0 0 0 1 0 -1 -1 0");
        Check.refuses("letter(0, -1)", NoSuchElementException.class, () -> mail.letter(0, -1));
        Check.refuses("letter(0, 9)", NoSuchElementException.class, () -> mail.letter(0, 9));
        Check.refuses("letter(4, 9)", IndexOutOfBoundsException.class, () -> mail.letter(4, 9));
    }

    private static void trace() {
        CrossingMail mail = Texts.loaded(Texts.VALLEY);
        Check.that("no trace at first", mail.trace(0), 0);
        mail.run(9);
        Check.that("in the sack of tom", mail.trace(0) + " " + mail.trace(2), "1 0");
        mail.run(1);
        Check.that("in the sack of ann", mail.trace(2), 2);
        mail.run(1);
        Check.that("and swapped", mail.trace(0) + " " + mail.trace(2), "3 3");
        mail.lose(1);
        mail.find(0, 2);
        Check.that("the trace stays in a hand", mail.letter(0, 3) + " " + mail.trace(0), "2 3");
        CrossingMail five = Texts.loaded("village a;village b;crossing x;carrier k;route 127 1 a 2 x;carrier l;"
            + "carrier m;carrier n;carrier o;route 127 2 x 3 b;letter a b;");
        five.run(4);
        Check.that("carriers 0 and 4", five.letter(0, 3) + " " + five.trace(0), "2 17");
    }

    private static void suspects() {
        CrossingMail mail = Texts.loaded(Texts.VALLEY);
        mail.run(11);
        Check.that("no suspects in a sack", mail.suspects(0) + " " + mail.suspects(1), "0 0");
        mail.lose(1);
        mail.lose(0);
        Check.that("all of the trace without insurance", mail.suspects(0), 3);
        Check.that("the one carrier with insurance", mail.suspects(1), 2);
        Check.that("the other carrier", mail.suspects(2), 1);
        mail.find(0, 1);
        Check.that("no suspects when found", mail.suspects(0) + " " + mail.suspects(1), "0 0");
        Check.that("the lost sack behind it keeps its carrier", mail.suspects(2), 1);
    }

    private static void isLate() {
        CrossingMail mail = Texts.loaded(Texts.VALLEY);
        mail.strike(1, true);
        mail.run(12);
        Check.that("not late at the promised hour", mail.isLate(2), false);
        mail.run(1);
        Check.that("late after the promised hour", mail.isLate(2), true);
        Check.that("the others are not", mail.isLate(0), false);
        mail.strike(1, false);
        mail.run(72);
        Check.that("late in a hand", mail.letter(2, 3) + " " + mail.isLate(2), "2 true");
        CrossingMail inTime = Texts.loaded(Texts.VALLEY);
        inTime.run(13);
        Check.that("in a hand at the promised hour", inTime.letter(2, 7) + " " + inTime.isLate(2), "12 false");
        inTime.run(100);
        Check.that("and never late then", inTime.isLate(2), false);
        CrossingMail never = Texts.loaded("village a;village b;letter a b;");
        never.run(168);
        Check.that("without a promised hour never late", never.isLate(0), false);
        CrossingMail lost = Texts.loaded(Texts.VALLEY);
        lost.run(11);
        lost.lose(1);
        lost.run(3);
        Check.that("lost, not late", lost.isLate(0), false);
        lost.run(1);
        Check.that("lost and late", lost.isLate(0), true);
        lost.find(0, 2);
        Check.that("found too late", lost.letter(0, 7) + " " + lost.isLate(0), "15 true");
    }

    private static String numbers(CrossingMail mail) {
        StringBuilder text = new StringBuilder();
        for (int what = 0; what < 9; what++) {
            text.append(what == 0 ? "" : " ").append(mail.letters(what));
        }
        return text.toString();
    }

    private static void letters() {
        CrossingMail mail = Texts.loaded("village z;" + Texts.VALLEY + "letter b z;");
        Check.that("letters at first", numbers(mail), "4 0 0 0 2 0 1 0 0");
        mail.run(10);
        Check.that("letters in sacks", numbers(mail), "1 3 0 0 2 0 1 0 0");
        mail.run(1);
        Check.that("letters swapped", numbers(mail), "1 3 0 0 2 0 1 0 3");
        mail.run(2);
        Check.that("a letter in a hand", numbers(mail), "1 2 1 0 2 0 1 0 3");
        mail.lose(1);
        Check.that("letters lost", numbers(mail), "1 0 1 2 2 0 1 0 3");
        mail.run(72);
        Check.that("letters late", numbers(mail), "1 0 1 2 2 2 1 0 3");
        mail.claim(1);
        Check.that("a letter claimed", numbers(mail), "1 0 1 2 2 2 1 1 3");
        mail.find(0, 3);
        Check.that("letters found", numbers(mail), "1 0 3 0 2 2 1 1 3");
        mail.post(0, 1, 9);
        Check.that("three insured ones of five", numbers(mail), "2 0 3 0 3 2 2 1 3");
        Check.refuses("letters(-1)", NoSuchElementException.class, () -> mail.letters(-1));
        Check.refuses("letters(9)", NoSuchElementException.class, () -> mail.letters(9));
    }

    private static void punctuality() {
        CrossingMail mail = Texts.loaded(Texts.VALLEY);
        Check.that("none in a hand", mail.punctuality(), 0.0);
        mail.run(13);
        Check.that("one of one", mail.punctuality(), 1.0);
        mail.lose(1);
        mail.run(2);
        mail.find(0, 2);
        Check.that("one of three", mail.punctuality(), 1.0 / 3.0);
        mail.post(2, 1, 0);
        mail.run(24);
        Check.that("two of four", mail.punctuality(), 0.5);
        CrossingMail unpromised = Texts.loaded("village a;village b;carrier k;route 1 1 a;route 2 1 b;letter a b;");
        unpromised.strike(0, true);
        unpromised.post(0, 1, 0);
        unpromised.strike(0, false);
        unpromised.run(26);
        Check.that("without a promised hour in time", unpromised.letter(1, 6) + " " + unpromised.punctuality(),
            "-1 1.0");
        CrossingMail late = Texts.loaded("village a;village b;carrier k;route 1 1 a;route 2 1 b;letter a b;");
        late.strike(0, true);
        late.run(168);
        late.strike(0, false);
        late.run(26);
        Check.that("none of one", late.letters(2) + " " + late.punctuality(), "1 0.0");
    }

    private static void fastestSack() {
        CrossingMail mail = Texts.loaded(ABH + "carrier p;route 127 8 a 12 b;carrier q;route 127 8 a 10 b;letter a b;"
            + "letter a h;");
        mail.run(9);
        Check.that("the sack by which it arrives first", mail.letter(0, 3) + " " + mail.letter(0, 4), "1 1");
        Check.that("no sack without an arrival", mail.letter(1, 3) + " " + mail.letter(1, 4), "0 0");
        CrossingMail strike = Texts.loaded(ABH + "carrier p;route 127 8 a 12 b;carrier q;route 127 8 a 10 b;letter a b;");
        strike.strike(1, true);
        strike.run(9);
        Check.that("a carrier on strike is not here", strike.letter(0, 4) + " " + strike.trace(0), "0 1");
        CrossingMail higher = Texts.loaded(ABH + "carrier p;route 127 6 x 8 a 10 b;carrier q;route 127 6 x 8 a 12 b;"
            + "letter a b;");
        higher.run(9);
        Check.that("the faster sack has the higher number", higher.letter(0, 4) + " " + higher.trace(0), "1 1");
        CrossingMail next = Texts.loaded(ABH + "carrier p;route 127 8 a 9 b;carrier q;route 127 10 a 11 b;letter a b;");
        next.run(9);
        Check.that("the very next hour is looked at", next.letter(0, 3) + " " + next.letter(0, 4), "1 0");
    }

    private static void lowestSackOfSeveral() {
        CrossingMail mail = Texts.loaded(ABH + "capacity 1;carrier p;route 127 6 x 8 a 12 b;carrier q;"
            + "route 127 6 x 8 a 12 b;letter a b;letter a b;letter a b;");
        mail.run(9);
        Check.that("the lowest sack is with the other carrier", mail.letter(0, 4) + " " + mail.trace(0), "0 2");
        Check.that("the next one gets the next sack", mail.letter(1, 4) + " " + mail.trace(1), "1 1");
        Check.that("the last one has no room", mail.letter(2, 3) + " " + mail.trace(2), "0 0");
    }

    private static void lowestSackWithoutSwap() {
        CrossingMail mail = Texts.loaded(ABH + "carrier p;route 127 8 a 12 b;carrier q;route 127 8 a 12 b;"
            + "carrier r;route 127 8 a 12 b;letter a b;");
        mail.run(9);
        Check.that("the lowest of three", mail.letter(0, 4) + " " + mail.trace(0), "0 1");
    }

    private static void fullSacks() {
        CrossingMail mail = Texts.loaded(ABH + "capacity 2;carrier p;route 127 8 a 12 b;carrier q;route 127 8 a 10 b;"
            + "letter a b;".repeat(6));
        mail.run(9);
        Check.that("two in the faster sack", mail.sackLetter(1, 0) + " " + mail.sackLetter(1, 1) + " "
            + mail.sackLetter(1, 2), "0 1 -1");
        Check.that("two in the slower sack", mail.sackLetter(0, 0) + " " + mail.sackLetter(0, 1) + " "
            + mail.sackLetter(0, 2), "2 3 -1");
        Check.that("two in the office", mail.officeLetter(0, 0) + " " + mail.officeLetter(0, 1), "4 5");
        CrossingMail through = Texts.loaded(ABH + "capacity 3;carrier p;route 127 8 a 10 h 12 b;"
            + "letter h b;letter a b;letter a b;letter a b;");
        through.run(9);
        through.setCapacity(2);
        Check.that("three stay in the sack", through.sackCount(0), 3);
        through.run(2);
        Check.that("the lowest numbers get in at the next village", through.sackLetter(0, 0) + " "
            + through.sackLetter(0, 1) + " " + through.sackLetter(0, 2), "0 1 -1");
        Check.that("the others are in the office", through.officeLetter(2, 0) + " " + through.officeLetter(2, 1),
            "2 3");
        CrossingMail slow = Texts.loaded(ABH + "capacity 1;carrier p;route 127 8 a 20 b;carrier q;route 127 8 a 10 b;"
            + "carrier r;route 127 9 a 13 b;letter a b;letter a b;");
        slow.run(9);
        Check.that("rather wait than take the slow one with room", slow.letter(1, 3) + " " + slow.letter(0, 4), "0 1");
        slow.run(1);
        Check.that("it goes with the next one", slow.letter(1, 3) + " " + slow.letter(1, 4), "1 2");
    }

    private static void sackOrOffice() {
        CrossingMail later = Texts.loaded(ABH + "carrier p;route 127 8 a 20 b;carrier q;route 127 9 a 12 b;letter a b;");
        later.run(9);
        Check.that("waiting is faster", later.letter(0, 3) + " " + later.trace(0), "0 0");
        later.run(1);
        Check.that("then it goes", later.letter(0, 3) + " " + later.letter(0, 4), "1 1");
        CrossingMail equal = Texts.loaded(ABH + "carrier p;route 127 8 a 12 b;carrier q;route 127 9 a 12 b;letter a b;");
        equal.run(9);
        Check.that("waiting is as fast", equal.letter(0, 3) + " " + equal.letter(0, 4), "1 0");
        CrossingMail change = Texts.loaded(ABH + "carrier p;route 127 8 a 10 h 20 b;carrier q;route 127 12 h 14 b;"
            + "letter a b;");
        change.run(11);
        Check.that("it leaves the sack at h", change.letter(0, 3) + " " + change.letter(0, 4), "0 2");
        change.run(4);
        Check.that("and comes with the other one", change.letter(0, 3) + " " + change.letter(0, 7) + " "
            + change.letter(0, 6), "2 14 14");
        CrossingMail once = Texts.loaded("village a;village b;carrier p;route 1 8 a;route 64 23 b;letter a b;");
        once.run(9);
        Check.that("no arrival by waiting in 240 hours", once.letter(0, 3), 1);
        CrossingMail never = Texts.loaded("village a;village b;carrier p;route 127 8 a 9 b;letter a b;");
        never.run(8);
        never.strike(0, true);
        never.run(24);
        Check.that("a carrier on strike does not come", never.letter(0, 3) + " " + never.letters(2), "0 0");
        Check.that("a letter whose carrier strikes stays in its sack", stays(), "1 0");
    }

    private static String stays() {
        CrossingMail mail = Texts.loaded("village a;village b;carrier p;route 127 8 a 9 b;letter a b;");
        mail.run(9);
        mail.strike(0, true);
        mail.run(168);
        return mail.letter(0, 3) + " " + mail.letter(0, 4);
    }

    private static void wrongNumbers() {
        CrossingMail mail = Texts.loaded(Texts.VALLEY);
        Class<IndexOutOfBoundsException> due = IndexOutOfBoundsException.class;
        int[] numbers = {-1, Integer.MIN_VALUE, Integer.MAX_VALUE};
        for (int n : numbers) {
            Check.refuses("sackOf", due, () -> mail.sackOf(n));
            Check.refuses("carrierOf", due, () -> mail.carrierOf(n));
            Check.refuses("sackCount", due, () -> mail.sackCount(n));
            Check.refuses("sackLetter", due, () -> mail.sackLetter(n, 0));
            Check.refuses("sackValue", due, () -> mail.sackValue(n));
            Check.refuses("officeCount", due, () -> mail.officeCount(n));
            Check.refuses("officeLetter", due, () -> mail.officeLetter(n, 0));
            Check.refuses("letter", due, () -> mail.letter(n, 0));
            Check.refuses("trace", due, () -> mail.trace(n));
            Check.refuses("suspects", due, () -> mail.suspects(n));
            Check.refuses("isLate", due, () -> mail.isLate(n));
        }
        Check.refuses("sackOf(2)", due, () -> mail.sackOf(2));
        Check.refuses("carrierOf(2)", due, () -> mail.carrierOf(2));
        Check.refuses("sackCount(2)", due, () -> mail.sackCount(2));
        Check.refuses("sackLetter(2, 0)", due, () -> mail.sackLetter(2, 0));
        Check.refuses("sackValue(2)", due, () -> mail.sackValue(2));
        Check.refuses("officeCount(4)", due, () -> mail.officeCount(4));
        Check.refuses("officeLetter(4, 0)", due, () -> mail.officeLetter(4, 0));
        Check.refuses("letter(3, 0)", due, () -> mail.letter(3, 0));
        Check.refuses("trace(3)", due, () -> mail.trace(3));
        Check.refuses("suspects(3)", due, () -> mail.suspects(3));
        Check.refuses("isLate(3)", due, () -> mail.isLate(3));
    }
}
