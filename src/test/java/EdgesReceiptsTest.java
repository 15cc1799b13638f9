/** Promises 34 to 36: each sentence of the document that names a boundary of receipts and lost sacks. */
public final class EdgesReceiptsTest {
    private static final String AB = "village a;village b;";
    private static final String ABH = "village a;village b;village h;crossing x;";
    private static final String DAILY = AB + "capacity 20;carrier k;route 127 1 a 2 b;";

    private EdgesReceiptsTest() {
    }

    public static void main(String[] args) {
        insuredAlone();
        intoASack();
        intoAnOffice();
        intoAHand();
        swapped();
        lost();
        found();
        oneSackToAnother();
        orderAtAVillage();
        orderOfOneLostSack();
        orderOfCrossings();
        latestSixty();
        whatOfReceipt();
        agoOfReceipt();
        lastReceipt();
        lastReceiptOfSixty();
        lostSackNumbers();
        lostSackWhat();
        lostSackProperties();
        emptySack();
        Edge.done("EdgesReceiptsTest", 34, 35, 36);
    }

    /** The receipts, the earliest one first: hour, letter, kind, carrier, place. */
    private static String receipts(CrossingMail mail) {
        StringBuilder text = new StringBuilder();
        for (int ago = mail.count(5) - 1; ago >= 0; ago--) {
            text.append(Texts.receiptText(mail, ago)).append(ago == 0 ? "" : ", ");
        }
        return text.toString();
    }

    private static CrossingMail ran(int hours, String text) {
        CrossingMail mail = Texts.loaded(text);
        mail.run(hours);
        return mail;
    }

    private static void insuredAlone() {
        Edge.says(34, "Only insured letters have receipts");
        CrossingMail mail = ran(11, Texts.VALLEY.replaceAll(" insured \\d+", ""));
        mail.lose(1);
        mail.find(0, 1);
        mail.run(48);
        Edge.that("none is insured", mail.count(5) + " " + mail.receipt(0, 0) + " " + mail.letters(2), "0 -1 3");
        CrossingMail one = ran(3, DAILY + "letter a b;letter a b insured 1;letter a b;");
        Edge.that("one of three, with the value 1", receipts(one), "1 1 0 0 0, 2 1 2 0 1");
    }

    private static void intoASack() {
        Edge.says(34, "Kind 0: it goes into the sack of a carrier at a village, and was not in this sack when the hour's villages "
            + "were processed.");
        CrossingMail mail = ran(5, ABH + "carrier k;route 127 1 a 2 h 3 b;letter a b insured 5;letter h b insured 5;");
        Edge.that("not again in the same sack", receipts(mail), "1 0 0 0 0, 2 1 0 0 2, 3 0 2 0 1, 3 1 2 0 1");
        CrossingMail carrier = ran(3, ABH + "carrier k;route 127 0 x;carrier l;route 127 0 x 1 a 2 b;letter a b insured 5;");
        Edge.that("the carrier, not the sack", receipts(carrier) + " " + carrier.sackOf(1), "1 0 0 1 0, 2 0 2 1 1 0");
    }

    private static void intoAnOffice() {
        Edge.says(34, "Kind 1: it goes from a sack into the office of a village (the carrier is the one who had the sack).");
        CrossingMail mail = ran(4, ABH + "carrier j;carrier k;route 127 1 a 3 h;carrier l;route 127 5 h 6 b;letter a b insured 5;"
            + "letter h b insured 5;");
        Edge.that("and none for the one that was in the office", receipts(mail), "1 0 0 1 0, 3 0 1 1 2");
    }

    private static void intoAHand() {
        Edge.says(34, "Kind 2: it comes into the hand of who gets it (carrier and village likewise).");
        CrossingMail mail = ran(6, ABH + "carrier k;route 127 1 a 2 x;carrier l;route 127 2 x 5 b;letter a b insured 5;");
        Edge.that("the carrier who brings it", receipts(mail), "1 0 0 0 0, 2 0 3 1 3, 5 0 2 1 1");
    }

    private static void swapped() {
        Edge.says(34, "Kind 3: its sack was swapped at a crossing (the carrier is the one who has it now).");
        CrossingMail mail = ran(3, ABH + "carrier k;route 127 1 a 2 x;carrier l;route 127 1 h 2 x 5 b;carrier m;route 127 2 x 6 b;"
            + "letter h b insured 5;letter a b insured 5;letter a b;");
        Edge.that("of three carriers", receipts(mail), "1 1 0 0 0, 1 0 0 1 2, 2 0 3 0 3, 2 1 3 2 3");
        CrossingMail alone = ran(3, ABH + "carrier k;route 127 1 a 2 x 5 b;carrier l;route 127 3 x;letter a b insured 5;");
        Edge.that("one alone swaps nothing", receipts(alone), "1 0 0 0 0");
    }

    private static void lost() {
        Edge.says(34, "Kind 4: its sack was lost (the carrier who had it; no place).");
        CrossingMail mail = ran(11, Texts.VALLEY);
        mail.lose(1);
        Edge.that("the letter and the present hour", Texts.receiptText(mail, 0), "11 1 4 1 -1");
        int kept = mail.count(5);
        mail.lose(1);
        Edge.that("an empty sack", mail.count(5), kept);
    }

    private static void found() {
        Edge.says(34, "Kind 5: its sack was found (no carrier; the village; this alone, also if it comes into a hand by it).");
        CrossingMail mail = ran(11, Texts.VALLEY + "letter a b insured 4;");
        mail.lose(1);
        mail.run(1);
        mail.find(0, 2);
        Edge.that("into a hand, and into the office", Texts.receiptText(mail, 1) + ", " + Texts.receiptText(mail, 0),
            "12 1 5 -1 2, 12 3 5 -1 2");
        Edge.that("this alone", mail.receipt(2, 2) + " " + mail.receipt(3, 2), "4 4");
    }

    private static void oneSackToAnother() {
        Edge.says(34, "A letter that goes from one sack into another one at a village has the receipt of kind 0 alone.");
        CrossingMail mail = ran(4, ABH + "carrier k;route 127 1 a 3 h;carrier l;route 127 3 h 4 b;letter a b insured 5;");
        Edge.that("at h", receipts(mail), "1 0 0 0 0, 3 0 0 1 2");
    }

    private static void orderAtAVillage() {
        Edge.says(34, "at a village first all of kind 2 and then all others");
        CrossingMail mail = ran(3, ABH + "carrier k;route 127 1 a 2 h 9 b;carrier l;route 127 4 h 5 b;carrier m;route 127 2 h 3 a;"
            + "letter a b insured 1;letter h a insured 2;letter a h insured 3;letter a h insured 4;");
        Edge.that("letters 2 and 3, then 0 and 1", receipts(mail).substring(receipts(mail).indexOf("2 2 2")),
            "2 2 2 0 2, 2 3 2 0 2, 2 0 1 0 2, 2 1 0 2 2");
        Edge.says(34, "those that belong together (at one crossing, one village, one lost sack) by the numbers of the letters");
        Edge.that("at a", receipts(mail).substring(0, 34), "1 0 0 0 0, 1 2 0 0 0, 1 3 0 0 0, 2");
    }

    private static void orderOfOneLostSack() {
        Edge.says(34, "those that belong together (at one crossing, one village, one lost sack) by the numbers of the letters");
        CrossingMail mail = ran(4, ABH + "carrier k;route 127 1 a 3 h 9 b;letter h b insured 1;letter a b insured 2;");
        mail.lose(0);
        mail.find(0, 1);
        Edge.that("lost, and found in hands", receipts(mail),
            "1 1 0 0 0, 3 0 0 0 2, 4 0 4 0 -1, 4 1 4 0 -1, 4 0 5 -1 1, 4 1 5 -1 1");
    }

    private static void orderOfCrossings() {
        Edge.says(34, "Receipts are written in the order in which things happen");
        CrossingMail mail = ran(3, "crossing y;crossing x;" + AB + "village v;village w;carrier k;route 127 1 a 2 x;carrier l;"
            + "route 127 1 b 2 y;carrier m;route 127 2 x 3 v;carrier n;route 127 2 y 3 v;letter a v insured 1;letter b v insured 2;");
        Edge.that("crossing 0 before crossing 1", receipts(mail), "1 0 0 0 2, 1 1 0 1 3, 2 1 3 3 0, 2 0 3 2 1");
        CrossingMail both = Texts.loaded(AB + "crossing x;carrier k;route 127 1 a 2 x;carrier l;route 127 2 x 9 b;carrier m;"
            + "route 127 2 a 3 b;letter a b;letter a b insured 1;letter a b insured 2;");
        both.strike(2, true);
        both.run(2);
        both.post(0, 1, 3);
        both.strike(2, false);
        both.run(1);
        Edge.that("crossings before villages", receipts(both), "1 1 0 0 0, 1 2 0 0 0, 2 1 3 1 2, 2 2 3 1 2, 2 3 0 2 0");
    }

    private static void latestSixty() {
        Edge.says(34, "The latest 60 are kept.");
        CrossingMail mail = Texts.loaded(DAILY + "letter a b insured 1;".repeat(20) + "letter a b insured 2;");
        mail.run(2);
        mail.lose(0);
        Edge.that("forty", mail.count(5) + " " + Texts.receiptText(mail, 39) + " " + mail.receipt(40, 0), "40 1 0 0 0 0 -1");
        mail.find(0, 0);
        Edge.that("sixty", mail.count(5) + " " + Texts.receiptText(mail, 59) + " " + mail.receipt(60, 0), "60 1 0 0 0 0 -1");
        mail.strike(0, true);
        mail.run(23);
        mail.setCapacity(1);
        mail.strike(0, false);
        mail.run(1);
        Edge.that("the 61st", mail.count(5) + " " + Texts.receiptText(mail, 0) + ", " + Texts.receiptText(mail, 59) + ", "
            + Texts.receiptText(mail, 60), "60 25 0 0 0 0, 1 1 0 0 0, -1 -1 -1 -1 -1");
        mail.run(1);
        Edge.that("the 62nd", mail.count(5) + " " + Texts.receiptText(mail, 0) + ", " + Texts.receiptText(mail, 59),
            "60 26 0 2 0 1, 1 2 0 0 0");
        mail.undo();
        mail.undo();
        Edge.that("sixty again", mail.count(5) + " " + Texts.receiptText(mail, 59), "60 1 0 0 0 0");
        String before = receipts(mail);
        mail.setCapacity(20);
        mail.run(1);
        mail.lose(0);
        mail.find(0, 1);
        Edge.that("sixty others", mail.count(5) + " " + Texts.receiptText(mail, 59) + ", " + Texts.receiptText(mail, 0),
            "60 25 0 0 0 0, 26 19 5 -1 1");
        for (int i = 0; i < 4; i++) {
            mail.undo();
        }
        Edge.that("the sixty before them again", receipts(mail), before);
    }

    private static void whatOfReceipt() {
        Edge.says(34, "if what is not 0 to 4");
        CrossingMail none = Texts.loaded(AB);
        CrossingMail mail = ran(11, Texts.VALLEY);
        for (int what : new int[] {-1, 5, Integer.MIN_VALUE, Integer.MAX_VALUE}) {
            Edge.throwsNoSuch("what " + what, () -> mail.receipt(0, what));
            Edge.throwsNoSuch("no receipts, what " + what, () -> none.receipt(0, what));
            Edge.throwsNoSuch("ago -1, what " + what, () -> mail.receipt(-1, what));
        }
        Edge.says(34, "`NONE` where it has none");
        mail.lose(1);
        Edge.that("a lost sack has no place", mail.receipt(0, 4), -1);
        mail.find(0, 0);
        Edge.that("a sack that was found has no carrier", mail.receipt(0, 3) + " " + mail.receipt(0, 4), "-1 0");
    }

    private static void agoOfReceipt() {
        Edge.says(34, "0 for the latest receipt, 1 for the one before it, and so on");
        CrossingMail mail = ran(3, DAILY + "letter a b insured 1;letter a b insured 1;");
        Edge.that("four", mail.receipt(0, 1) + " " + mail.receipt(1, 1) + " " + mail.receipt(2, 0) + " " + mail.receipt(3, 0)
            + mail.receipt(3, 1), "1 0 1 10");
        Edge.says(34, "Returns that part of the receipt; `NONE` if there is none.");
        for (int ago : new int[] {4, 59, 60, 61, -1, Integer.MIN_VALUE, Integer.MAX_VALUE}) {
            for (int what = 0; what < 5; what++) {
                Edge.that("ago " + ago + ", what " + what, mail.receipt(ago, what), -1);
            }
        }
    }

    private static void lastReceipt() {
        CrossingMail mail = Texts.loaded(DAILY + "letter a b insured 1;letter a b insured 1;letter a b;");
        Edge.says(35, "`NONE` if none of it is kept.");
        Edge.that("not yet", mail.lastReceipt(0) + " " + mail.lastReceipt(1), "-1 -1");
        Edge.says(35, "Returns how many receipts ago the latest receipt of the letter is (0 for the latest one of all)");
        mail.run(2);
        Edge.that("one each, and none without insurance",
            mail.lastReceipt(0) + " " + mail.lastReceipt(1) + " " + mail.lastReceipt(2), "1 0 -1");
        mail.run(1);
        Edge.that("two each", mail.lastReceipt(0) + " " + mail.lastReceipt(1), "1 0");
        Edge.says(35, "IndexOutOfBoundsException is thrown if a parameter named place, carrier, sack, letter or lost is not the "
            + "number of an existing one.");
        for (int letter : new int[] {-1, 3, 29, 30, 32, Integer.MIN_VALUE, Integer.MAX_VALUE}) {
            Edge.throwsIndex("letter " + letter, () -> mail.lastReceipt(letter));
        }
        Edge.throwsIndex("no letters", () -> Texts.loaded(AB).lastReceipt(0));
    }

    private static void lastReceiptOfSixty() {
        Edge.says(35, "`NONE` if none of it is kept.");
        CrossingMail mail = Texts.loaded(DAILY + "letter a b insured 1;" + "letter b a insured 1;".repeat(19));
        mail.run(3);
        Edge.that("19 behind it", mail.count(5) + " " + mail.lastReceipt(0), "21 19");
        mail.lose(0);
        mail.find(0, 1);
        Edge.that("57 behind it", mail.count(5) + " " + mail.lastReceipt(0), "59 57");
        mail.setCapacity(1);
        mail.run(24);
        Edge.that("58 behind it", mail.count(5) + " " + mail.lastReceipt(0), "60 58");
        mail.run(23);
        Edge.that("59 behind it", mail.count(5) + " " + mail.lastReceipt(0), "60 59");
        mail.run(1);
        Edge.that("60 behind it", mail.count(5) + " " + mail.lastReceipt(0), "60 -1");
        mail.undo();
        Edge.that("59 behind it again", mail.lastReceipt(0), 59);
    }

    private static void lostSackNumbers() {
        Edge.says(36, "IndexOutOfBoundsException is thrown if a parameter named place, carrier, sack, letter or lost is not the "
            + "number of an existing one.");
        CrossingMail mail = Texts.loaded(DAILY + "letter a b;");
        Edge.throwsIndex("none is lost", () -> mail.lostSack(0, 0));
        mail.run(2);
        mail.lose(0);
        for (int lost : new int[] {-1, 1, 29, 30, 32, Integer.MIN_VALUE, Integer.MAX_VALUE}) {
            Edge.throwsIndex("lost " + lost, () -> mail.lostSack(lost, 0));
        }
        Edge.says(36, "the numbers of the lost sacks behind it decrease by 1");
        CrossingMail four = Texts.loaded(AB + "capacity 1;carrier k;route 127 1 a 2 b;" + "letter a b;".repeat(4));
        for (int day = 0; day < 4; day++) {
            four.run(2);
            four.lose(0);
            four.run(22);
        }
        four.find(1, 0);
        Edge.that("before it and behind it", four.lostSack(0, 1) + " " + four.lostSack(1, 1) + " " + four.lostSack(2, 1) + " "
            + four.letter(0, 4) + four.letter(2, 4) + four.letter(3, 4), "2 50 74 012");
        Edge.throwsIndex("three are left", () -> four.lostSack(3, 0));
        four.find(2, 0);
        Edge.that("the last one", four.lostSack(0, 1) + " " + four.lostSack(1, 1) + " " + four.count(4), "2 50 2");
        four.find(0, 0);
        Edge.that("the first one", four.lostSack(0, 1) + " " + four.count(4) + " " + four.letter(2, 4), "50 1 0");
    }

    private static void lostSackWhat() {
        CrossingMail mail = Texts.loaded(DAILY + "letter a b;");
        mail.run(2);
        mail.lose(0);
        Edge.says(36, "if what is not 0 to 3");
        for (int what : new int[] {-1, 4, Integer.MIN_VALUE, Integer.MAX_VALUE}) {
            Edge.throwsNoSuch("what " + what, () -> mail.lostSack(0, what));
        }
        Edge.says(36, "When several exceptions apply, the one that is listed first in the method's throws clause is thrown.");
        Edge.throwsIndex("lost and what", () -> mail.lostSack(1, 4));
        Edge.throwsIndex("lost and what below", () -> mail.lostSack(-1, -1));
    }

    private static void lostSackProperties() {
        Edge.says(36, "0 the carrier, 1 the hour, 2 the number of its letters, 3 the sum of their values");
        CrossingMail mail = Texts.loaded(ABH + "capacity 20;carrier j;carrier k;route 127 1 a 2 x;carrier l;route 127 2 x 9 b;"
            + "letter b a insured 9;letter a b insured 999;letter a b;letter a b insured 1;");
        mail.run(3);
        mail.lose(2);
        Edge.that("the carrier who had it, not the sack", mail.lostSack(0, 0) + " " + mail.lostSack(0, 1) + " "
            + mail.lostSack(0, 2) + " " + mail.lostSack(0, 3), "2 3 3 1000");
        mail.run(100);
        Edge.that("later", mail.lostSack(0, 1) + " " + mail.lostSack(0, 2), "3 3");
        CrossingMail two = Texts.loaded(ABH + "carrier k;route 127 1 a 2 b;carrier l;route 127 1 h 2 b;letter a b insured 5;"
            + "letter h b insured 6;");
        two.run(2);
        two.lose(1);
        two.lose(0);
        two.find(0, 0);
        Edge.that("behind one that was found", two.lostSack(0, 0) + " " + two.lostSack(0, 3), "0 5");
        two.undo();
        Edge.that("undone", two.lostSack(0, 0) + " " + two.lostSack(0, 3) + " " + two.lostSack(1, 0) + " "
            + two.lostSack(1, 3), "1 6 0 5");
        CrossingMail most = Texts.loaded(DAILY + "letter a b insured 999;".repeat(20));
        most.run(2);
        most.lose(0);
        Edge.that("twenty letters", most.lostSack(0, 2) + " " + most.lostSack(0, 3), "20 19980");
    }

    private static void emptySack() {
        Edge.says(36, "if the sack is empty, there is no lost sack");
        CrossingMail mail = Texts.loaded(DAILY);
        mail.lose(0);
        Edge.throwsIndex("no lost sack", () -> mail.lostSack(0, 0));
        Edge.that("none is counted", mail.count(4), 0);
    }
}
