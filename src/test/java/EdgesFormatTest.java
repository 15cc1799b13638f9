/** Promises 46 to 48: each sentence of the document that names a boundary of the formatted text. */
public final class EdgesFormatTest {
    private static final String AB = "village a;village b;";
    private static final String LONG = "village abcdef;village zyxwvu;carrier qwerty;route 127 1 abcdef 2 zyxwvu;";

    private EdgesFormatTest() {
    }

    public static void main(String[] args) {
        formatLetter();
        formatLateLetter();
        formatCarrier();
        formatFullCarrier();
        wrongNumbers();
        replaces();
        formattedByte();
        formattedByteStays();
        Edge.done("EdgesFormatTest", 46, 47, 48);
    }

    private static void formatLetter() {
        Edge.says(46, "\"office \" with the name of the village, \"sack \" with the number of the sack, \"hand\", or \"lost\"");
        CrossingMail mail = Texts.loaded("village z;carrier q;" + LONG + "letter abcdef zyxwvu;letter z abcdef;");
        Edge.that("office, six letters and one", Texts.letterText(mail, 0) + ", " + Texts.letterText(mail, 1),
            "abcdef>zyxwvu office abcdef, z>abcdef office z");
        mail.run(2);
        Edge.that("sack", Texts.letterText(mail, 0), "abcdef>zyxwvu sack 1");
        mail.lose(1);
        Edge.that("lost", Texts.letterText(mail, 0), "abcdef>zyxwvu lost");
        mail.find(0, 0);
        Edge.that("office where it was found", Texts.letterText(mail, 0), "abcdef>zyxwvu office z");
        mail.undo();
        mail.find(0, 2);
        Edge.that("hand", Texts.letterText(mail, 0), "abcdef>zyxwvu hand");
        CrossingMail five = Texts.loaded(AB + "crossing x;carrier k;carrier l;carrier m;carrier n;carrier o;route 127 1 a 2 b;"
            + "letter a b;");
        five.run(2);
        Edge.that("sack 4", Texts.letterText(five, 0), "a>b sack 4");
    }

    private static void formatLateLetter() {
        Edge.says(46, "with a space and \"!\" behind if it is late");
        CrossingMail mail = Texts.loaded(LONG + "letter abcdef zyxwvu;letter zyxwvu abcdef;");
        mail.strike(0, true);
        mail.run(2);
        Edge.that("at the promised hour", Texts.letterText(mail, 0), "abcdef>zyxwvu office abcdef");
        mail.run(1);
        Edge.that("an hour later", Texts.letterText(mail, 0), "abcdef>zyxwvu office abcdef !");
        Edge.that("its length", mail.formatLetter(0), 29);
        mail.strike(0, false);
        mail.run(23);
        Edge.that("sack", Texts.letterText(mail, 0), "abcdef>zyxwvu sack 0 !");
        mail.lose(0);
        Edge.that("lost", Texts.letterText(mail, 0), "abcdef>zyxwvu lost !");
        mail.find(0, 1);
        Edge.that("hand", Texts.letterText(mail, 0), "abcdef>zyxwvu hand !");
        mail.run(168);
        Edge.that("a hand in time", Texts.letterText(mail, 1) + ", " + mail.letter(1, 6) + " " + mail.letter(1, 7),
            "zyxwvu>abcdef hand !, 25 49");
        CrossingMail never = Texts.loaded(AB + "letter a b;");
        never.run(168);
        Edge.that("without a promised hour", Texts.letterText(never, 0), "a>b office a");
    }

    private static void formatCarrier() {
        Edge.says(47, "its name, \":\", a space, the number of its sack, and for each letter in it, by number, a space and the number "
            + "of the letter, with \"*\" behind if it is insured");
        CrossingMail mail = Texts.loaded(AB + "crossing x;carrier k;route 127 1 a 2 x;carrier abcdef;route 127 2 x 3 b;"
            + "letter a b;letter b a;letter a b insured 1;letter a b;");
        Edge.that("empty sacks", Texts.carrierText(mail, 0) + ", " + Texts.carrierText(mail, 1), "k: 0, abcdef: 1");
        mail.run(3);
        Edge.that("swapped", Texts.carrierText(mail, 0) + ", " + Texts.carrierText(mail, 1), "k: 1, abcdef: 0 0 2* 3");
    }

    private static void formatFullCarrier() {
        Edge.says(47, "for each letter in it, by number, a space and the number of the letter");
        CrossingMail mail = Texts.loaded(LONG + "capacity 20;" + "letter abcdef zyxwvu;".repeat(2)
            + "letter zyxwvu abcdef;".repeat(7) + "letter abcdef zyxwvu;");
        for (int letter = 10; letter < 28; letter++) {
            mail.post(0, 1, letter < 20 ? 0 : 1);
        }
        mail.run(2);
        Edge.that("twenty, of one digit and of two", Texts.carrierText(mail, 0),
            "qwerty: 0 0 1 9 10 11 12 13 14 15 16 17 18 19 20* 21* 22* 23* 24* 25* 26*");
        Edge.says(47, "Returns the length of the text.");
        Edge.that("length", mail.formatCarrier(0), 9 + 3 * 2 + 10 * 3 + 7 * 4);
        CrossingMail most = Texts.loaded(LONG + "capacity 20;" + "letter zyxwvu abcdef;".repeat(10));
        for (int letter = 10; letter < 30; letter++) {
            most.post(0, 1, 999);
        }
        most.run(2);
        Edge.that("the longest text", most.formatCarrier(0) + " " + most.formattedByte(88) + " " + most.formattedByte(89),
            "89 42 -1");
    }

    private static void wrongNumbers() {
        CrossingMail mail = Texts.loaded(AB + "carrier k;letter a b;letter a b;");
        mail.formatLetter(1);
        Edge.says(46, "IndexOutOfBoundsException is thrown if a parameter named place, carrier, sack, letter or lost is not the number of "
            + "an existing one.");
        for (int letter : new int[] {-1, 2, 29, 30, 32, Integer.MIN_VALUE, Integer.MAX_VALUE}) {
            Edge.throwsIndex("letter " + letter, () -> mail.formatLetter(letter));
        }
        Edge.says(47, "IndexOutOfBoundsException is thrown if a parameter named place, carrier, sack, letter or lost is not the number of "
            + "an existing one.");
        for (int carrier : new int[] {-1, 1, 4, 5, 32, Integer.MIN_VALUE, Integer.MAX_VALUE}) {
            Edge.throwsIndex("carrier " + carrier, () -> mail.formatCarrier(carrier));
        }
        Edge.says(48, "A call that throws changes nothing");
        Edge.that("the formatted text", Texts.formatted(mail), "a>b office a");
    }

    private static void replaces() {
        CrossingMail mail = Texts.loaded(LONG + "letter abcdef zyxwvu;");
        Edge.says(46, "The text replaces the previous formatted text.");
        mail.formatCarrier(0);
        Edge.that("a longer one", mail.formatLetter(0) + " " + Texts.formatted(mail), "27 abcdef>zyxwvu office abcdef");
        Edge.says(47, "The text replaces the previous formatted text.");
        Edge.that("a shorter one", mail.formatCarrier(0) + " " + Texts.formatted(mail), "9 qwerty: 0");
    }

    private static void formattedByte() {
        Edge.says(48, "Returns the byte at that offset; `NONE` if there is none.");
        CrossingMail mail = Texts.loaded(LONG + "letter abcdef zyxwvu;");
        for (int index : new int[] {0, 1, -1, Integer.MIN_VALUE, Integer.MAX_VALUE}) {
            Edge.that("no text yet, offset " + index, mail.formattedByte(index), -1);
        }
        mail.formatLetter(0);
        Edge.that("the first one and the last one", mail.formattedByte(0) + " " + mail.formattedByte(26), "97 102");
        for (int index : new int[] {27, 28, 1000, -1, Integer.MIN_VALUE, Integer.MAX_VALUE}) {
            Edge.that("offset " + index, mail.formattedByte(index), -1);
        }
        mail.formatCarrier(0);
        Edge.that("a shorter text", mail.formattedByte(8) + " " + mail.formattedByte(9) + " " + mail.formattedByte(26), "48 -1 -1");
    }

    private static void formattedByteStays() {
        Edge.says(48, "The formatted text stays.");
        CrossingMail mail = Texts.loaded(LONG);
        mail.formatCarrier(0);
        mail.run(1);
        mail.undo();
        Texts.load(mail, "carrier k;");
        Edge.that("after undo and load", Texts.formatted(mail), "qwerty: 0");
        Texts.fill(mail, "?");
        Check.outcome(mail::load);
        mail.placeNamed();
        Edge.that("after a load that throws", Texts.formatted(mail), "qwerty: 0");
        Edge.that("other objects have their own", new CrossingMail().formattedByte(0), -1);
    }
}
