/** Promises 1 to 6: a new object, the buffer, load and its errors. */
public final class InputTest {
    private static final String THREE = "village a;village b;crossing x;";

    private InputTest() {
    }

    public static void main(String[] args) {
        newObject();
        append();
        truncate();
        load();
        loadReplacesEverything();
        failedLoadChangesNothing();
        correctTexts();
        syntaxErrors();
        badNumbers();
        badNames();
        tooMany();
        errorsAreForgotten();
        Check.done("InputTest");
    }

    private static void newObject() {
        CrossingMail mail = new CrossingMail();
        int[] counts = {0, 0, 0, 0, 0, 0, 8, 0, 0};
        for (int what = 0; what < counts.length; what++) {
            Check.that("count " + what + " of a new object", mail.count(what), counts[what]);
        }
        Check.that("undoDepth of a new object", mail.undoDepth(), 0);
        Check.that("undo of a new object", mail.undo(), -1);
        Check.that("formattedByte of a new object", mail.formattedByte(0), -1);
        Check.that("punctuality of a new object", mail.punctuality(), 0.0);
        Check.that("meetings of a new object", mail.meetings(), 0);
        Check.that("a new buffer is empty", mail.truncate(1), false);
        Check.that("run of a new object", mail.run(168), 0);
        Check.that("time of a new object after run", mail.count(7), 168);
        Check.refuses("no place 0", IndexOutOfBoundsException.class, () -> mail.isVillage(0));
        Check.refuses("no carrier 0", IndexOutOfBoundsException.class, () -> mail.sackOf(0));
        int[] constants = {CrossingMail.NONE, CrossingMail.IN_OFFICE, CrossingMail.IN_SACK, CrossingMail.IN_HAND,
            CrossingMail.LOST, CrossingMail.SYNTAX, CrossingMail.BAD_NUMBER, CrossingMail.BAD_NAME,
            CrossingMail.TOO_MANY};
        Check.that("constants", java.util.Arrays.toString(constants), "[-1, 0, 1, 2, 3, 1, 2, 3, 4]");
    }

    private static void append() {
        CrossingMail mail = new CrossingMail();
        Check.that("append", mail.append(0x76696c6c, 0x61676520, 0x613b7669, 0x6c6c6167, 0x6520623b), 20);
        Check.that("the most significant byte is first", mail.load(), 2);
        for (int i = 1; i <= 45; i++) {
            Check.that("append number " + i, mail.append(0x20202020, 0x20202020, 0x20202020, 0x20202020, 0x20202020),
                20 * i);
        }
        Check.that("append to 900 bytes", mail.append(1, 2, 3, 4, 5), -1);
        Check.that("nothing was appended", mail.truncate(901), false);
        Check.that("900 bytes are there", mail.truncate(881), true);
        Check.that("append to 881 bytes", mail.append(1, 2, 3, 4, 5), -1);
        Check.that("still 881 bytes", mail.truncate(882), false);
        Check.that("shorten to 880 bytes", mail.truncate(880), true);
        Check.that("append to 880 bytes", mail.append(0x20202020, 0x20202020, 0x20202020, 0x20202020, 0x2020203b),
            900);
        Check.refuses("900 bytes, the last one wrong", IllegalArgumentException.class, mail::load);
        Check.that("offset of the last byte", mail.errorOffset(), 899);
        mail.append(0xff202020, 0, 0, 0, 0);
        Check.refuses("byte 255", IllegalArgumentException.class, mail::load);
        Check.that("offset of byte 255", mail.errorOffset(), 0);
    }

    private static void truncate() {
        CrossingMail mail = new CrossingMail();
        Texts.fill(mail, "village a; village b;");
        Check.that("truncate below 0", mail.truncate(-1), false);
        Check.that("truncate beyond the length", mail.truncate(22), false);
        Check.that("truncate far beyond", mail.truncate(Integer.MAX_VALUE), false);
        Check.that("truncate to the least int", mail.truncate(Integer.MIN_VALUE), false);
        Check.that("truncate to the length itself", mail.truncate(21), true);
        Check.that("truncate to the first line", mail.truncate(10), true);
        Check.that("truncate does not lengthen", mail.truncate(21), false);
        Check.that("the first bytes are left", mail.load(), 1);
        Check.that("truncate an empty buffer to 0", mail.truncate(0), true);
    }

    private static void load() {
        CrossingMail mail = new CrossingMail();
        Check.that("load of no text", mail.load(), 0);
        Check.that("load of blanks", Texts.load(mail, " \t\n "), 0);
        Check.that("load answers the places", Texts.load(mail, Texts.VALLEY), 4);
        Check.that("load empties the buffer", mail.truncate(1), false);
        int[] counts = {4, 3, 2, 3, 0, 0, 8, 0, 0};
        for (int what = 0; what < counts.length; what++) {
            Check.that("count " + what + " after load", mail.count(what), counts[what]);
        }
        mail = Texts.loaded("village a;village b;letter a b insured 999;letter b a;carrier t;"
            + "route 127 8 a 12 b;capacity 20;capacity 3;letter a b insured 1;");
        Check.that("a letter before the routes is promised behind them", mail.letter(0, 6), 12);
        Check.that("so is the second one", mail.letter(1, 6), 32);
        Check.that("values", mail.letter(0, 2) + " " + mail.letter(1, 2) + " " + mail.letter(2, 2), "999 0 1");
        Check.that("the last capacity counts", mail.count(6), 3);
    }

    private static void loadReplacesEverything() {
        CrossingMail mail = Texts.loaded(Texts.VALLEY);
        mail.setCapacity(5);
        mail.run(11);
        mail.lose(1);
        mail.strike(0, true);
        mail.formatCarrier(0);
        Check.that("load again", Texts.load(mail, "village q;village b;carrier k;route 1 2 q 3 b;"), 2);
        int[] counts = {2, 2, 1, 0, 0, 0, 8, 0, 0};
        for (int what = 0; what < counts.length; what++) {
            Check.that("count " + what + " after load again", mail.count(what), counts[what]);
        }
        Check.that("no strike after load", mail.isOnStrike(0), false);
        Check.that("nothing to undo after load", mail.undoDepth() + " " + mail.undo(), "0 -1");
        Check.that("the sacks are the first ones", mail.sackOf(0), 0);
        Check.that("old routes are gone", mail.stop(0, 1, 0) + " " + mail.stop(0, 0, 0), "-1 200");
        Check.that("the formatted text stays", Texts.formatted(mail), "tom: 1 2*");
        Check.that("no places at all", Texts.load(mail, ""), 0);
        Check.that("no carriers at all", mail.count(2), 0);
        Texts.load(mail, "capacity 3;");
        Texts.load(mail, "village a;village b;");
        Check.that("the capacity of the text before does not stay", mail.count(6), 8);
        mail.run(5);
        mail.post(0, 1, 9);
        Texts.load(mail, "village a;village b;letter b a;");
        Check.that("letters of the text are posted at time 0", mail.letter(0, 5) + " " + mail.letter(0, 2), "0 0");
    }

    private static void failedLoadChangesNothing() {
        CrossingMail mail = Texts.loaded(Texts.VALLEY);
        mail.setCapacity(5);
        mail.run(11);
        mail.strike(0, true);
        mail.formatCarrier(0);
        Texts.fill(mail, "village q;carrier k;route 1 2 q;letter q q;");
        Check.refuses("load of a wrong text", IllegalArgumentException.class, mail::load);
        Check.that("a failed load empties the buffer", mail.truncate(1), false);
        int[] counts = {4, 3, 2, 3, 0, 4, 5, 11, 1};
        for (int what = 0; what < counts.length; what++) {
            Check.that("count " + what + " after a failed load", mail.count(what), counts[what]);
        }
        Check.that("still on strike", mail.isOnStrike(0), true);
        Check.that("still the same route", mail.stop(0, 1, 0), 800);
        Check.that("still the same text", Texts.formatted(mail), "tom: 1 2*");
        Check.that("still undoable", mail.undo(), 2);
        mail.run(4);
        Check.that("still the same sacks", mail.letters(2), 3);
    }

    private static void correctTexts() {
        String[] texts = {
            "",
            "\n\t village\ta\n;\tvillage b ; ",
            "village route;village letter;carrier letter;carrier route;route 1 2 letter 3 route;"
                + "letter letter route insured 5;",
            "village abcdef;crossing z;carrier abcdef;",
            THREE + "carrier k;route 127 0a1b2x3a4b23x;",
            THREE + "carrier k;route 1 0 a;route 126 0 b 1 a;carrier l;route 127 0 a;",
            THREE + "carrier k;route 064 000 a 007 b 08 x;capacity 001;",
            THREE + "letter a b;letter b a insured 001;letter a b insured 999;",
            "capacity 1;capacity 20;",
            "village a;carrier k;route 1 0 a 1 a 2 a;",
        };
        for (String text : texts) {
            Check.that("text " + text, Texts.verdict(text), "ok");
        }
        CrossingMail mail = Texts.loaded(THREE + "carrier k;route 5 1 a 3 x;route 2 2 b;");
        Check.that("the bits of the weekdays",
            mail.stop(0, 0, 1) + " " + mail.stop(0, 1, 0) + " " + mail.stop(0, 2, 0) + " " + mail.stop(0, 3, 0),
            "302 201 100 -1");
    }

    /** The mark ^ stands before the byte that is due as the error offset. */
    private static void error(String marked, int kind) {
        int offset = marked.indexOf('^');
        String text = marked.substring(0, offset) + marked.substring(offset + 1);
        Check.that("text " + marked, Texts.verdict(text), kind + "@" + offset);
    }

    private static void syntaxErrors() {
        String[] texts = {
            "^;", "^a;", "^villages a;", "^villag", "^1;", "^Village a;", "village a;^;", "village a; ^B;",
            "village^", "village ^", "village a^", "village a ^", "village a \n^", "village ^1;", "village ^;",
            "village ^abcdefg;", "village ^village;", "village abc^D;", "village a ^b;", "village a^1;", "village a^-;",
            "village a^\r;", "village a^\0;", "village a;^\u00e9", "crossing ^abcdefg;", "crossing^;",
            "carrier ^abcdefg;", "carrier ^7;", "carrier^", "carrier k ^k;", "carrier k^",
            "^route 1 2 a;", THREE + "^route 200 2 a;", THREE + "carrier k;route^", THREE + "carrier k;route ^a 1;",
            THREE + "carrier k;route 1^", THREE + "carrier k;route 1^;", THREE + "carrier k;route 1 ^a;",
            THREE + "carrier k;route 1 2^", THREE + "carrier k;route 1 2 ^3;", THREE + "carrier k;route 1 2^;",
            THREE + "carrier k;route 1 2 a^", THREE + "carrier k;route 1 2 a ^b;",
            THREE + "carrier k;route 1 2 ^abcdefg;", THREE + "carrier k;route 1 2 a 3^",
            THREE + "carrier k;route 1 1 a 2 a 3 a 4 a 5 a 6 a ^a 7;", THREE + "carrier k;route 1 2^.5 a;",
            "capacity^", "capacity ^a;", "capacity^;", "capacity 3^", "capacity 3 ^4;", "capacity ^-1;",
            "letter^", "letter ^;", "letter ^1 a;", "letter ^abcdefg a;", THREE + "letter a^", THREE + "letter a^;",
            THREE + "letter a ^abcdefg;", THREE + "letter a ^insured 5;", THREE + "letter a b^", THREE + "letter a b ^insure 5;",
            THREE + "letter a b ^5;", THREE + "letter a b insured^", THREE + "letter a b insured^;",
            THREE + "letter a b insured ^a;", THREE + "letter a b insured 5^",
            THREE + "letter a b insured 5 ^insured 5;", THREE + "letter a b ^insuredx 5;",
        };
        for (String text : texts) {
            error(text, CrossingMail.SYNTAX);
        }
    }

    private static void badNumbers() {
        String route = THREE + "carrier k;route ";
        String[] texts = {
            "capacity ^0;", "capacity ^21;", "capacity ^0001;", "capacity ^99999999999999999999;", "capacity ^21",
            route + "^0 1 a;", route + "^128 1 a;", route + "^0127 1 a;", route + "^999", route + "1 ^24 a;",
            route + "1 ^0001 a;", route + "1 5 a ^5 b;", route + "1 5 a ^4 b;", route + "1 23 a ^23 b;",
            route + "1 23 a ^24 b;", route + "1 23 a ^0 b;", route + "1 5 a ^0006 b;", route + "1 ^100;",
            route + "3 1 a;route ^2 1 a;", route + "1 1 a;route ^127 1 a;", route + "64 1 a;route 2 1 a;route ^66 1 a;",
            THREE + "letter a b insured ^0;", THREE + "letter a b insured ^1000;", THREE + "letter a b insured ^000;",
            THREE + "letter a b insured ^0005",
        };
        for (String text : texts) {
            error(text, CrossingMail.BAD_NUMBER);
        }
    }

    private static void badNames() {
        String[] texts = {
            "village a;village ^a;", "village a;crossing ^a;", "crossing a;village ^a;", "crossing a;crossing ^a",
            "carrier k;carrier ^k;", "village a;carrier a;carrier ^a;", THREE + "carrier k;route 1 2 ^c;",
            THREE + "carrier k;route 1 2 ^k;", THREE + "carrier k;route 1 2 a 3 ^ab;",
            THREE + "carrier k;route 1 2 ^route", THREE + "letter ^c a;", THREE + "letter ^x a;",
            THREE + "letter a ^x;", THREE + "letter a ^c;", THREE + "letter a ^a;", THREE + "letter a ^insure",
            "letter ^a b;", THREE + "letter ^ab b;", THREE + "letter a ^letter 5;",
        };
        for (String text : texts) {
            error(text, CrossingMail.BAD_NAME);
        }
    }

    private static void tooMany() {
        StringBuilder ten = new StringBuilder();
        for (char name = 'a'; name <= 'j'; name++) {
            ten.append(name < 'e' ? "village " : "crossing ").append(name).append(';');
        }
        Check.that("ten places", Texts.verdict(ten.toString()), "ok");
        error(ten + "^village k;", CrossingMail.TOO_MANY);
        error(ten + " ^crossing a;", CrossingMail.TOO_MANY);
        error(ten + "^village", CrossingMail.TOO_MANY);
        error(ten + "^villages", CrossingMail.SYNTAX);
        String five = "carrier a;carrier b;carrier c;carrier d;carrier e;";
        Check.that("five carriers", Texts.verdict(five), "ok");
        error(five + "^carrier f;", CrossingMail.TOO_MANY);
        error(five + "\n^carrier 1", CrossingMail.TOO_MANY);
        String six = THREE + "carrier k;route 1 1 a 2 b 3 x 4 a 5 b 6 x";
        Check.that("six stops", Texts.verdict(six + ";"), "ok");
        error(six + " ^7 a;", CrossingMail.TOO_MANY);
        error(six + "^6 a;", CrossingMail.TOO_MANY);
        error(six + " ^99999;", CrossingMail.TOO_MANY);
        error(six + " ^0", CrossingMail.TOO_MANY);
        String thirty = THREE + "letter a b;".repeat(30);
        Check.that("thirty letters", Texts.verdict(thirty), "ok");
        error(thirty + "^letter a b;", CrossingMail.TOO_MANY);
        error(thirty + "\t^letter x", CrossingMail.TOO_MANY);
    }

    private static void errorsAreForgotten() {
        CrossingMail mail = new CrossingMail();
        Check.that("no error before load", mail.errorKind() + "@" + mail.errorOffset(), "0@-1");
        Texts.fill(mail, "capacity 21;");
        Check.refuses("a wrong capacity", IllegalArgumentException.class, mail::load);
        Check.that("the error stays", mail.errorKind() + "@" + mail.errorOffset(), "2@9");
        mail.run(1);
        mail.undo();
        Texts.fill(mail, "capacity");
        Check.that("undo and the buffer leave the error", mail.errorKind() + "@" + mail.errorOffset(), "2@9");
        Check.refuses("a text that ends too early", IllegalArgumentException.class, mail::load);
        Check.that("the later error", mail.errorKind() + "@" + mail.errorOffset(), "1@8");
        Check.that("a failed load sets no capacity", mail.count(6), 8);
        Texts.load(mail, "capacity 20;");
        Check.that("no error after success", mail.errorKind() + "@" + mail.errorOffset(), "0@-1");
        Check.that("capacity 20", mail.count(6), 20);
    }
}
