import java.util.NoSuchElementException;

/** Promises 34 to 36: receipts and lost sacks. */
public final class ReceiptsTest {
    private static final String HUB = "village a;village b;village h;crossing x;";

    private ReceiptsTest() {
    }

    public static void main(String[] args) {
        wholeWay();
        changesAtVillages();
        orderAtOneVillage();
        orderOfPlaces();
        swapsOfSeveral();
        lostAndFound();
        latestSixty();
        wrongArguments();
        lastReceipt();
        lostSack();
        Check.done("ReceiptsTest");
    }

    /** All receipts, the earliest one first: hour, letter, kind, carrier, place. */
    private static String receipts(CrossingMail mail) {
        StringBuilder text = new StringBuilder();
        for (int ago = mail.count(5) - 1; ago >= 0; ago--) {
            text.append(text.length() == 0 ? "" : ", ").append(Texts.receiptText(mail, ago));
        }
        return text.toString();
    }

    private static void wholeWay() {
        CrossingMail mail = Texts.loaded(Texts.VALLEY);
        mail.run(8);
        Check.that("no receipts at first", mail.count(5) + " " + mail.receipt(0, 0), "0 -1");
        mail.run(16);
        Check.that("a day's receipts", receipts(mail),
            "8 1 0 0 0, 9 2 0 1 2, 10 1 3 1 3, 10 2 3 0 3, 12 2 2 0 1, 14 1 2 1 2");
        Check.that("receipt(0, 2)", mail.receipt(0, 2), 2);
        Check.that("receipt(5, 0)", mail.receipt(5, 0), 8);
        Check.that("beyond the kept ones", Texts.receiptText(mail, 6), "-1 -1 -1 -1 -1");
        Check.that("before the latest one", Texts.receiptText(mail, -1), "-1 -1 -1 -1 -1");
        Check.that("extreme", mail.receipt(Integer.MAX_VALUE, 0) + " " + mail.receipt(Integer.MIN_VALUE, 4), "-1 -1");
    }

    private static void changesAtVillages() {
        CrossingMail office = Texts.loaded(HUB + "carrier p;route 127 8 a 10 h 20 b;carrier q;route 127 12 h 14 b;"
            + "letter a b insured 1;letter a b;");
        office.run(24);
        Check.that("from a sack into an office", receipts(office), "8 0 0 0 0, 10 0 1 0 2, 12 0 0 1 2, 14 0 2 1 1");
        CrossingMail sack = Texts.loaded(HUB + "carrier p;route 127 8 a 10 h;carrier q;route 127 10 h 14 b;"
            + "letter a b insured 1;");
        sack.run(24);
        Check.that("from a sack into another one", receipts(sack), "8 0 0 0 0, 10 0 0 1 2, 14 0 2 1 1");
        CrossingMail same = Texts.loaded(HUB + "carrier p;route 127 8 a 10 h 12 b;letter a b insured 1;letter h a insured 2;");
        same.run(13);
        Check.that("the same sack has no receipt", receipts(same), "8 0 0 0 0, 10 1 0 0 2, 12 0 2 0 1");
        CrossingMail full = Texts.loaded(HUB + "capacity 1;carrier p;route 127 8 a 10 h 12 b;"
            + "letter h b insured 1;letter a b insured 2;letter a b insured 3;");
        full.run(13);
        Check.that("no room at h, and none at a", receipts(full), "8 1 0 0 0, 10 0 0 0 2, 10 1 1 0 2, 12 0 2 0 1");
    }

    private static void orderAtOneVillage() {
        CrossingMail mail = Texts.loaded(HUB + "carrier p;route 127 8 a 10 h 20 b;carrier q;route 127 12 h 14 b;"
            + "letter a b insured 1;letter h b insured 2;letter a h insured 3;letter a h insured 4;letter a b insured 5;");
        mail.run(11);
        Check.that("kind 2 first, then the others, by number", receipts(mail),
            "8 0 0 0 0, 8 2 0 0 0, 8 3 0 0 0, 8 4 0 0 0, 10 2 2 0 2, 10 3 2 0 2, 10 0 1 0 2, 10 4 1 0 2");
        mail.run(2);
        Check.that("three go on", mail.count(5) + " " + mail.sackCount(1), "11 3");
    }

    private static void orderOfPlaces() {
        CrossingMail mail = Texts.loaded("village a;village b;crossing y;crossing x;"
            + "carrier p;route 127 8 b 9 x;carrier q;route 127 9 x 10 a;"
            + "carrier r;route 127 8 a 9 y;carrier s;route 127 9 y 10 b;"
            + "letter b a insured 9;letter a b insured 9;");
        mail.run(11);
        Check.that("villages and crossings by number", receipts(mail),
            "8 1 0 2 0, 8 0 0 0 1, 9 1 3 3 2, 9 0 3 1 3, 10 0 2 1 0, 10 1 2 3 1");
        Check.that("two swaps", mail.count(8), 2);
    }

    private static void swapsOfSeveral() {
        CrossingMail mail = Texts.loaded("village a;village b;village c;crossing x;"
            + "carrier p;route 127 1 a 5 x 9 b;carrier q;route 127 1 b 5 x 9 c;carrier r;route 127 1 c 5 x 9 b;"
            + "letter b c insured 1;letter a b insured 2;letter c b insured 3;letter c b;");
        mail.run(6);
        Check.that("by the numbers of the letters", receipts(mail),
            "1 1 0 0 0, 1 0 0 1 1, 1 2 0 2 2, 5 0 3 0 3, 5 1 3 2 3, 5 2 3 1 3");
        Check.that("the letters have their carriers",
            mail.trace(0) + " " + mail.trace(1) + " " + mail.trace(2) + " " + mail.trace(3), "3 5 6 6");
    }

    private static void lostAndFound() {
        CrossingMail mail = Texts.loaded(Texts.VALLEY + "letter a c insured 3;");
        mail.run(11);
        mail.lose(1);
        mail.lose(0);
        mail.run(5);
        mail.find(0, 2);
        mail.find(0, 0);
        Check.that("kinds 4 and 5", receipts(mail).substring(receipts(mail).indexOf("11 ")),
            "11 1 4 1 -1, 11 3 4 1 -1, 11 2 4 0 -1, 16 1 5 -1 2, 16 3 5 -1 2, 16 2 5 -1 0");
        Check.that("found at home", mail.letter(1, 3) + " " + mail.letter(1, 7), "2 16");
        mail.undo();
        mail.undo();
        Check.that("receipts are undone", Texts.receiptText(mail, 0), "11 2 4 0 -1");
    }

    private static void latestSixty() {
        CrossingMail mail = Texts.loaded("village a;village b;village c;crossing x;capacity 20;"
            + "carrier p;route 127 8 a 10 x 12 b;carrier q;route 127 10 x 14 c;"
            + "letter a c insured 1;".repeat(20) + "letter a c;");
        mail.run(11);
        Check.that("forty", mail.count(5) + " " + Texts.receiptText(mail, 39), "40 8 0 0 0 0");
        mail.run(4);
        Check.that("sixty", mail.count(5) + " " + Texts.receiptText(mail, 59), "60 8 0 0 0 0");
        Check.that("the latest one", Texts.receiptText(mail, 0), "14 19 2 1 2");
        mail.post(0, 1, 5);
        mail.run(24);
        Check.that("sixty are kept", mail.count(5) + " " + Texts.receiptText(mail, 0), "60 34 21 3 1 3");
        Check.that("the two earliest ones are gone", Texts.receiptText(mail, 59), "8 2 0 0 0");
        Check.that("nothing behind", Texts.receiptText(mail, 60), "-1 -1 -1 -1 -1");
        Check.that("lastReceipt of the first letter", mail.lastReceipt(0), 21);
        mail.undo();
        Check.that("undo brings it back", mail.count(5) + " " + Texts.receiptText(mail, 59), "60 8 0 0 0 0");
        Check.that("and takes the latest one", Texts.receiptText(mail, 0), "14 19 2 1 2");
    }

    private static void wrongArguments() {
        CrossingMail mail = Texts.loaded(Texts.VALLEY);
        Class<NoSuchElementException> due = NoSuchElementException.class;
        Check.refuses("receipt(0, 5)", due, () -> mail.receipt(0, 5));
        Check.refuses("receipt(0, -1)", due, () -> mail.receipt(0, -1));
        Check.refuses("receipt(-1, 5)", due, () -> mail.receipt(-1, 5));
        Check.refuses("receipt(99, 99)", due, () -> mail.receipt(99, Integer.MAX_VALUE));
        mail.run(11);
        mail.lose(0);
        Check.refuses("lostSack(0, -1)", due, () -> mail.lostSack(0, -1));
        Check.refuses("lostSack(0, 4)", due, () -> mail.lostSack(0, 4));
        Class<IndexOutOfBoundsException> first = IndexOutOfBoundsException.class;
        Check.refuses("lostSack(1, 4)", first, () -> mail.lostSack(1, 4));
        Check.refuses("lostSack(-1, 0)", first, () -> mail.lostSack(-1, 0));
        Check.refuses("lastReceipt(-1)", first, () -> mail.lastReceipt(-1));
        Check.refuses("lastReceipt(3)", first, () -> mail.lastReceipt(3));
    }

    private static void lastReceipt() {
        CrossingMail mail = Texts.loaded(Texts.VALLEY);
        Check.that("none at first", mail.lastReceipt(1), -1);
        mail.run(11);
        Check.that("never one without insurance", mail.lastReceipt(0), -1);
        Check.that("letters 1 and 2", mail.lastReceipt(1) + " " + mail.lastReceipt(2), "1 0");
        mail.run(4);
        Check.that("letters 1 and 2 later", mail.lastReceipt(1) + " " + mail.lastReceipt(2), "0 1");
        CrossingMail many = Texts.loaded("village a;village b;capacity 20;carrier p;route 127 8 a 9 b;"
            + "letter a b insured 1;" + "letter b a insured 2;".repeat(20));
        many.run(10);
        Check.that("twenty behind it", many.count(5) + " " + many.lastReceipt(0), "22 20");
        many.lose(0);
        Check.that("forty behind it", many.count(5) + " " + many.lastReceipt(0), "42 40");
        many.find(0, 1);
        Check.that("not kept any more", many.count(5) + " " + many.lastReceipt(0), "60 -1");
        Check.that("the others are", many.lastReceipt(1) + " " + many.lastReceipt(20), "19 0");
    }

    private static void lostSack() {
        CrossingMail mail = Texts.loaded(Texts.VALLEY);
        Check.refuses("no lost sack", IndexOutOfBoundsException.class, () -> mail.lostSack(0, 0));
        mail.run(10);
        mail.lose(0);
        mail.run(1);
        mail.lose(0);
        Check.that("lost sack 0", mail.lostSack(0, 0) + " " + mail.lostSack(0, 1) + " " + mail.lostSack(0, 2) + " "
            + mail.lostSack(0, 3), "0 10 2 50");
        Check.that("lost sack 1", mail.lostSack(1, 0) + " " + mail.lostSack(1, 1) + " " + mail.lostSack(1, 2) + " "
            + mail.lostSack(1, 3), "0 11 1 7");
        mail.run(20);
        mail.find(0, 1);
        Check.that("the one behind it moves up", mail.lostSack(0, 0) + " " + mail.lostSack(0, 1) + " "
            + mail.lostSack(0, 2) + " " + mail.lostSack(0, 3), "0 11 1 7");
        Check.refuses("only one is left", IndexOutOfBoundsException.class, () -> mail.lostSack(1, 0));
        mail.undo();
        Check.that("undo brings both back", mail.lostSack(0, 1) + " " + mail.lostSack(0, 3) + " " + mail.lostSack(1, 1)
            + " " + mail.lostSack(1, 3), "10 50 11 7");
        CrossingMail two = Texts.loaded(Texts.VALLEY);
        two.run(10);
        two.lose(0);
        two.lose(1);
        two.find(0, 0);
        two.undo();
        Check.that("both carriers are back", two.lostSack(0, 0) + " " + two.lostSack(1, 0), "0 1");
    }
}
