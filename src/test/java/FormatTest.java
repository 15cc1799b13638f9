/** Promises 46 to 48: the formatted texts. */
public final class FormatTest {
    private FormatTest() {
    }

    public static void main(String[] args) {
        formatLetter();
        formatLetterLate();
        formatCarrier();
        longTexts();
        formattedByte();
        Check.done("FormatTest");
    }

    private static void formatLetter() {
        CrossingMail mail = Texts.loaded(Texts.VALLEY);
        Check.that("in an office", Texts.letterText(mail, 0), "a>c office a");
        mail.run(11);
        Check.that("in a sack", Texts.letterText(mail, 2), "c>b sack 1");
        mail.run(2);
        Check.that("in a hand", Texts.letterText(mail, 2), "c>b hand");
        mail.lose(1);
        Check.that("lost", Texts.letterText(mail, 1), "a>c lost");
        mail.find(0, 1);
        Check.that("in the office of b", Texts.letterText(mail, 1), "a>c office b");
        Check.refuses("formatLetter(-1)", IndexOutOfBoundsException.class, () -> mail.formatLetter(-1));
        Check.refuses("formatLetter(3)", IndexOutOfBoundsException.class, () -> mail.formatLetter(3));
        Check.that("the text stays", Texts.formatted(mail), "a>c office b");
    }

    private static void formatLetterLate() {
        CrossingMail mail = Texts.loaded(Texts.VALLEY);
        mail.run(10);
        mail.strike(0, true);
        mail.run(3);
        Check.that("late in a sack", Texts.letterText(mail, 2), "c>b sack 1 !");
        Check.that("not late in a sack", Texts.letterText(mail, 0), "a>c sack 0");
        mail.lose(1);
        Check.that("late and lost", Texts.letterText(mail, 2), "c>b lost !");
        mail.find(0, 1);
        Check.that("late in a hand", Texts.letterText(mail, 2), "c>b hand !");
        CrossingMail office = Texts.loaded(Texts.VALLEY);
        office.strike(0, true);
        office.run(14);
        Check.that("not late in an office", Texts.letterText(office, 0), "a>c office a");
        office.run(1);
        Check.that("late in an office", Texts.letterText(office, 0), "a>c office a !");
    }

    private static void formatCarrier() {
        CrossingMail mail = Texts.loaded(Texts.VALLEY);
        Check.that("tom at first", Texts.carrierText(mail, 0), "tom: 0");
        Check.that("ann at first", Texts.carrierText(mail, 1), "ann: 1");
        mail.run(11);
        Check.that("tom has the sack of ann", Texts.carrierText(mail, 0), "tom: 1 2*");
        Check.that("ann has that of tom", Texts.carrierText(mail, 1), "ann: 0 0 1*");
        Check.refuses("formatCarrier(-1)", IndexOutOfBoundsException.class, () -> mail.formatCarrier(-1));
        Check.refuses("formatCarrier(2)", IndexOutOfBoundsException.class, () -> mail.formatCarrier(2));
        Check.that("the text stays", Texts.formatted(mail), "ann: 0 0 1*");
    }

    private static void longTexts() {
        CrossingMail mail = Texts.loaded("village abcdef;village zyxwvu;capacity 20;carrier qwerty;"
            + "route 127 8 abcdef 9 zyxwvu;");
        for (int letter = 0; letter < 30; letter++) {
            mail.post(letter < 10 ? 1 : 0, letter < 10 ? 0 : 1, letter);
        }
        mail.run(9);
        StringBuilder due = new StringBuilder("qwerty: 0");
        for (int letter = 10; letter < 30; letter++) {
            due.append(' ').append(letter).append('*');
        }
        Check.that("the longest carrier", Texts.carrierText(mail, 0), due.toString());
        Check.that("its length", mail.formatCarrier(0), 89);
        mail.strike(0, true);
        mail.run(168);
        Check.that("the longest letter", Texts.letterText(mail, 0), "zyxwvu>abcdef office zyxwvu !");
    }

    private static void formattedByte() {
        CrossingMail mail = Texts.loaded(Texts.VALLEY);
        Check.that("no text yet", mail.formattedByte(0) + " " + mail.formattedByte(-1), "-1 -1");
        Check.that("length", mail.formatLetter(0), 12);
        Check.that("the first byte", mail.formattedByte(0), (int) 'a');
        Check.that("the second byte", mail.formattedByte(1), (int) '>');
        Check.that("the last byte", mail.formattedByte(11), (int) 'a');
        Check.that("behind the text", mail.formattedByte(12), -1);
        Check.that("before the text", mail.formattedByte(-1), -1);
        Check.that("extreme offsets", mail.formattedByte(Integer.MAX_VALUE) + " "
            + mail.formattedByte(Integer.MIN_VALUE), "-1 -1");
        mail.formatCarrier(1);
        Check.that("a shorter text replaces a longer one", mail.formattedByte(5) + " " + mail.formattedByte(6), "49 -1");
    }
}
