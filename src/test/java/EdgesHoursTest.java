/** Promise 38: each sentence of the document that names a boundary of processing an hour. */
public final class EdgesHoursTest {
    private static final String AB = "village a;village b;";
    private static final String ABH = "village a;village b;village h;";

    private EdgesHoursTest() {
    }

    public static void main(String[] args) {
        hoursInRange();
        hoursReturned();
        timeIncreases();
        endOfTheWeek();
        crossingsFirst();
        crossingsByNumber();
        strikes();
        villagesByNumber();
        villagesWithoutCarriers();
        takenOutFirst();
        lookedAtByNumber();
        roomSoFar();
        arrivesFirst();
        lowestNumber();
        notLaterThanWaiting();
        noneByWaiting();
        noneByASack();
        fromTheNextHourOn();
        within240Hours();
        strikesOfNow();
        Edge.done("EdgesHoursTest", 38);
    }

    private static String state(CrossingMail mail, int letter) {
        return mail.letter(letter, 3) + "@" + mail.letter(letter, 4);
    }

    private static String states(CrossingMail mail) {
        StringBuilder text = new StringBuilder();
        for (int letter = 0; letter < mail.count(3); letter++) {
            text.append(letter == 0 ? "" : " ").append(state(mail, letter));
        }
        return text.toString();
    }

    private static void hoursInRange() {
        CrossingMail mail = Texts.loaded(Texts.VALLEY);
        Edge.says(38, "`hours`: 1 to 168");
        Edge.that("1", mail.run(1) + " " + mail.count(7), "0 1");
        Edge.that("168", mail.run(168) + " " + mail.count(7), "3 169");
        Edge.says(38, "Throws `IllegalArgumentException` if hours is out of range");
        String before = Texts.snapshot(mail);
        for (int hours : new int[] {0, -1, 169, 170, Integer.MIN_VALUE, Integer.MAX_VALUE}) {
            Edge.throwsArgument("run " + hours, () -> mail.run(hours));
        }
        Edge.that("they change nothing", mail.undoDepth() + Texts.snapshot(mail), 2 + before);
    }

    private static void hoursReturned() {
        Edge.says(38, "Returns the number of letters that came into hands.");
        CrossingMail mail = Texts.loaded(ABH + "capacity 20;carrier k;route 127 1 a 2 b 3 h;carrier l;route 127 1 b 2 a;"
            + "letter a b insured 1;letter a h;letter b a;letter b h;");
        Edge.that("none", mail.run(2), 0);
        Edge.that("at two villages, insured or not", mail.run(1), 2);
        Edge.that("the one that goes on", mail.run(1), 2);
        Edge.that("no one is left", mail.run(168), 0);
        CrossingMail most = Texts.loaded(AB + "capacity 20;carrier k;route 127 1 a 2 b;" + "letter a b;".repeat(30));
        Edge.that("in a day", most.run(24), 20);
        most.undo();
        Edge.that("in a week", most.run(168), 30);
        CrossingMail found = Texts.loaded(AB + "carrier k;route 127 1 a 2 b;letter a b;letter a b;");
        found.run(2);
        found.lose(0);
        found.find(0, 1);
        Edge.that("found ones came before", found.letters(2) + " " + found.run(1), "2 0");
    }

    private static void timeIncreases() {
        Edge.says(38, "After all this, time increases by 1.");
        CrossingMail mail = Texts.loaded(AB + "carrier k;route 127 0 a 1 b;letter a b insured 1;");
        Edge.that("hour 0", mail.run(1) + " " + state(mail, 0) + " " + mail.receipt(0, 0), "0 1@0 0");
        Edge.that("hour 1", mail.run(1) + " " + state(mail, 0) + " " + mail.receipt(0, 0), "1 2@1 1");
        Edge.that("time", mail.count(7), 2);
        CrossingMail parts = Texts.loaded(Texts.VALLEY);
        CrossingMail whole = Texts.loaded(Texts.VALLEY);
        for (int hour = 0; hour < 168; hour++) {
            parts.run(1);
        }
        whole.run(168);
        Edge.that("168 times one hour", Texts.snapshot(parts), Texts.snapshot(whole));
    }

    private static void endOfTheWeek() {
        Edge.says(38, "and day d has the weekday d modulo 7");
        CrossingMail mail = Texts.loaded(AB + "carrier k;route 64 23 a;route 1 0 b;letter a b;letter a b;");
        Edge.that("the last hour of the week", mail.run(168) + " " + states(mail), "0 1@0 1@0");
        Edge.that("the first hour of the next week", mail.run(1) + " " + mail.letter(0, 7), "2 168");
        CrossingMail days = Texts.loaded(AB + "carrier k;route 2 0 a;route 4 0 b;letter a b;");
        Edge.that("not on day 0", days.run(24) + " " + state(days, 0), "0 0@0");
        Edge.that("on day 1", days.run(1) + " " + state(days, 0), "0 1@0");
        Edge.that("not before day 2", days.run(23) + " " + days.run(1), "0 1");
    }

    private static void crossingsFirst() {
        Edge.says(38, "First, at each crossing, by number, at which at least two carriers are, these swap their sacks");
        CrossingMail mail = Texts.loaded(AB + "crossing x;carrier k;route 127 1 a 2 x 3 b;carrier l;route 127 2 x 3 a;letter a b;");
        mail.run(2);
        Edge.that("before", mail.sackOf(0) + " " + mail.count(8), "0 0");
        mail.run(1);
        Edge.that("behind", mail.sackOf(0) + " " + mail.sackOf(1) + " " + mail.count(8), "1 0 1");
        CrossingMail alone = Texts.loaded(AB + "crossing x;crossing y;carrier k;route 127 2 x;carrier l;route 127 2 y;");
        alone.run(24);
        Edge.that("at two crossings", alone.sackOf(0) + " " + alone.count(8), "0 0");
        CrossingMail later = Texts.loaded(AB + "crossing x;carrier k;route 127 2 x;carrier l;route 127 3 x;");
        later.run(24);
        Edge.that("in two hours", later.sackOf(0) + " " + later.count(8), "0 0");
    }

    private static void crossingsByNumber() {
        Edge.says(38, "at each crossing, by number");
        CrossingMail mail = Texts.loaded(AB + "crossing y;crossing x;carrier k;route 127 1 a 2 x;carrier l;route 127 1 a 2 y;"
            + "carrier m;route 127 2 x 3 b;carrier n;route 127 2 y 3 b;capacity 1;letter a b insured 1;letter a b insured 2;");
        mail.run(3);
        Edge.that("the crossing that was added first", Texts.receiptText(mail, 1) + ", " + Texts.receiptText(mail, 0),
            "2 1 3 3 2, 2 0 3 2 3");
    }

    private static void strikes() {
        Edge.says(38, "each carrier that has a stop in this hour of this weekday, and is not on strike, is at the place of this stop");
        CrossingMail mail = Texts.loaded(AB + "crossing x;carrier k;route 127 1 a 2 x;carrier l;route 127 2 x 3 b;carrier m;"
            + "route 127 2 x 9 b;letter a b;letter b a;");
        mail.strike(1, true);
        mail.run(2);
        Edge.that("on strike at no village", state(mail, 0), "1@0");
        mail.run(1);
        Edge.that("on strike at no crossing", mail.sackOf(0) + " " + mail.sackOf(1) + " " + mail.sackOf(2), "2 1 0");
        CrossingMail two = Texts.loaded(AB + "crossing x;carrier k;route 127 1 a 2 x 9 b;carrier l;route 127 2 x 3 b;letter a b;");
        two.strike(1, true);
        two.run(3);
        Edge.that("one alone is left", two.sackOf(0) + " " + two.count(8) + " " + state(two, 0), "0 0 1@0");
        two.strike(0, true);
        two.run(24);
        Edge.that("the letter stays in its sack", state(two, 0), "1@0");
    }

    private static void villagesByNumber() {
        Edge.says(38, "Then, at each village, by number, at which at least one carrier is");
        CrossingMail mail = Texts.loaded("village b;village a;carrier k;route 127 1 a 2 b;carrier l;route 127 1 b 2 a;"
            + "letter a b insured 1;letter b a insured 2;");
        mail.run(2);
        Edge.that("the village that was added first", Texts.receiptText(mail, 1) + ", " + Texts.receiptText(mail, 0),
            "1 1 0 1 0, 1 0 0 0 1");
    }

    private static void villagesWithoutCarriers() {
        Edge.says(38, "at which at least one carrier is, this is done");
        CrossingMail mail = Texts.loaded(ABH + "carrier k;route 127 1 a 2 b;carrier l;route 127 1 h;letter a b;letter h b;");
        mail.run(1);
        Edge.that("no carrier yet", states(mail), "0@0 0@2");
        mail.run(1);
        Edge.that("a carrier at each", states(mail), "1@0 0@2");
    }

    private static void takenOutFirst() {
        Edge.says(38, "all letters are taken out of the sacks of these carriers");
        CrossingMail mail = Texts.loaded(ABH + "capacity 1;carrier k;route 127 1 a 2 h 3 b;letter a h;letter h b;");
        mail.run(3);
        Edge.that("the place of the one that came into a hand is free", states(mail), "2@2 1@0");
        CrossingMail change = Texts.loaded(ABH + "capacity 1;carrier k;route 127 1 a 3 h 9 b;carrier l;route 127 3 h 4 b;"
            + "letter a b;letter h b;");
        change.run(4);
        Edge.that("the one in a sack and the one in the office, by number", states(change), "1@1 1@0");
        Edge.says(38, "Those that go to this village are in the hand of who gets them.");
        Edge.that("at h", mail.letter(0, 4) + " " + mail.letter(0, 7) + " " + mail.trace(0), "2 2 1");
    }

    private static void lookedAtByNumber() {
        Edge.says(38, "All others, and those that were in the office, are looked at one by one, by number");
        CrossingMail mail = Texts.loaded(ABH + "capacity 2;carrier k;route 127 1 a 2 h 3 b;"
            + "letter h b;letter a b;letter h b;letter a b;");
        mail.run(2);
        Edge.that("at a", states(mail), "0@2 1@0 0@2 1@0");
        mail.run(1);
        Edge.that("those in the sack have no right to stay there", states(mail), "1@0 1@0 0@2 0@2");
    }

    private static void roomSoFar() {
        Edge.says(38, "have room (fewer letters so far than the capacity)");
        CrossingMail mail = Texts.loaded(AB + "capacity 3;carrier k;route 127 1 a 2 b;" + "letter a b;".repeat(4));
        mail.run(2);
        Edge.that("three of four", states(mail), "1@0 1@0 1@0 0@0");
        CrossingMail full = Texts.loaded(AB + "capacity 20;carrier k;route 127 1 a 2 b;" + "letter a b;".repeat(21));
        full.run(2);
        Edge.that("twenty of 21", full.sackCount(0) + " " + state(full, 20), "20 0@0");
        CrossingMail one = Texts.loaded(ABH + "capacity 1;carrier k;route 127 1 a 2 b;letter a h;letter a b;");
        one.run(2);
        Edge.that("the one that waits takes no room", states(one), "0@0 1@0");
        CrossingMail usual = Texts.loaded(AB + "carrier k;route 127 1 a 2 b;" + "letter a b;".repeat(9));
        usual.run(2);
        Edge.that("eight of nine without a capacity", usual.sackCount(0), 8);
    }

    private static void arrivesFirst() {
        Edge.says(38, "it takes the one by which it arrives first");
        CrossingMail mail = Texts.loaded(AB + "capacity 1;carrier k;route 127 1 a 9 b;carrier l;route 127 1 a 7 b;carrier m;"
            + "route 127 1 a 8 b;" + "letter a b;".repeat(4));
        mail.run(2);
        Edge.that("the first one, and then those with room", states(mail), "1@1 1@2 1@0 0@0");
        CrossingMail each = Texts.loaded(ABH + "carrier k;route 127 1 a 3 b 9 h;carrier l;route 127 1 a 2 h 10 b;letter a b;"
            + "letter a h;");
        each.run(2);
        Edge.that("each letter its own", states(each), "1@0 1@1");
    }

    private static void lowestNumber() {
        Edge.says(38, "of several the one with the lowest number");
        String meet = AB + "crossing x;carrier k;route 127 0 x 1 a 2 b;carrier l;route 127 0 x 1 a 2 b;capacity 1;";
        CrossingMail mail = Texts.loaded(meet + "letter a b;letter a b;");
        mail.run(2);
        Edge.that("the lowest sack, which the second carrier has", states(mail) + " " + mail.trace(0) + " " + mail.trace(1),
            "1@0 1@1 2 1");
        CrossingMail three = Texts.loaded(AB + "carrier k;route 127 1 a 2 b;carrier l;route 127 1 a 2 b;carrier m;"
            + "route 127 1 a 2 b;capacity 1;" + "letter a b;".repeat(4));
        three.run(2);
        Edge.that("without a swap", states(three), "1@0 1@1 1@2 0@0");
    }

    private static void notLaterThanWaiting() {
        Edge.says(38, "It goes into this sack if this arrival is not later than that by waiting");
        CrossingMail same = Texts.loaded(AB + "carrier k;route 127 1 a 4 b;carrier l;route 127 2 a 4 b;letter a b;");
        same.run(2);
        Edge.that("in the same hour", state(same, 0), "1@0");
        CrossingMail later = Texts.loaded(AB + "carrier k;route 127 1 a 5 b;carrier l;route 127 2 a 4 b;letter a b;");
        later.run(2);
        Edge.that("an hour later", state(later, 0), "0@0");
        CrossingMail full = Texts.loaded(AB + "capacity 1;carrier k;route 127 1 a 3 b;carrier l;route 127 1 a 5 b;carrier m;"
            + "route 127 2 a 4 b;letter a b;letter a b;");
        full.run(2);
        Edge.that("by the one with room an hour later", states(full), "1@0 0@0");
        full.run(1);
        Edge.that("it waited for this", states(full), "1@0 1@2");
    }

    private static void noneByWaiting() {
        Edge.says(38, "or if there is none by waiting");
        CrossingMail mail = Texts.loaded(AB + "carrier k;route 1 1 a;route 64 5 b;letter a b;");
        mail.run(2);
        Edge.that("a week later is too late", state(mail, 0), "1@0");
    }

    private static void noneByASack() {
        Edge.says(38, "otherwise, and if it does not arrive by any of these sacks, it is in the office");
        CrossingMail mail = Texts.loaded(ABH + "carrier k;route 127 1 a 2 b;letter a h;letter a b;");
        mail.run(2);
        Edge.that("no way at all", states(mail), "0@0 1@0");
        CrossingMail lost = Texts.loaded(ABH + "carrier k;route 127 1 a 2 h;carrier l;route 127 5 h 6 b;letter a b insured 1;");
        lost.run(2);
        lost.strike(1, true);
        lost.run(1);
        Edge.that("no way any more, out of the sack", state(lost, 0) + " " + lost.receipt(0, 2), "0@2 1");
        CrossingMail full = Texts.loaded(AB + "capacity 1;carrier k;route 127 1 a 2 b;letter a b;letter a b;");
        full.run(2);
        Edge.that("no sack with room", states(full), "1@0 0@0");
    }

    private static void fromTheNextHourOn() {
        Edge.says(38, "the letter's arrival by a sack is the arrival if from hour t + 1 on it is in this sack alone; its arrival by "
            + "waiting is that if from hour t + 1 on it is in this office alone. (The swaps of hour t are done already.)");
        CrossingMail next = Texts.loaded(AB + "carrier k;route 127 1 a 2 b;carrier l;route 127 2 a 3 b;letter a b;");
        next.run(2);
        Edge.that("the very next hour", state(next, 0), "1@0");
        CrossingMail swap = Texts.loaded(AB + "crossing x;carrier k;route 127 1 a 3 x 4 a;carrier l;route 127 1 x 3 x 5 b;"
            + "carrier m;route 127 1 x;letter a b;");
        swap.run(2);
        Edge.that("a swap of hour t and one behind it", state(swap, 0) + " " + swap.sackOf(1), "1@0 2");
        swap.run(2);
        Edge.that("in the sack that l has now", swap.carrierOf(0) + " " + state(swap, 0), "1 1@0");
        CrossingMail alone = Texts.loaded(ABH + "carrier k;route 127 1 a 9 b;carrier l;route 127 1 a 2 h;letter a b;");
        alone.run(2);
        Edge.that("in one sack alone", state(alone, 0), "1@0");
    }

    private static void within240Hours() {
        Edge.says(38, "there is none if this is not so in 240 hours");
        String text = ABH + "carrier k;route 1 0 a;route 2 0 h;carrier l;route 1 23 h;";
        CrossingMail exact = Texts.loaded(text + "route 8 0 b;letter a b;");
        exact.run(1);
        Edge.that("hour 240 is the 240th from hour 1 on", exact.letter(0, 6) + " " + state(exact, 0), "-1 1@0");
        CrossingMail late = Texts.loaded(text + "route 8 1 b;letter a b;");
        late.run(1);
        Edge.that("hour 241 is not looked at", late.letter(0, 6) + " " + state(late, 0), "-1 0@0");
        exact.run(168);
        exact.run(71);
        Edge.that("it has not come", exact.count(7) + " " + exact.letter(0, 3), "240 1");
        Edge.that("it comes in hour 240", exact.run(1), 1);
    }

    private static void strikesOfNow() {
        Edge.says(38, "Carriers on strike now are left out.");
        CrossingMail mail = Texts.loaded(ABH + "carrier k;route 127 1 a 2 h;carrier l;route 127 2 h 3 b;carrier m;route 127 2 a 9 b;"
            + "letter a b;");
        mail.strike(1, true);
        mail.run(2);
        Edge.that("it waits for m", state(mail, 0), "0@0");
        mail.undo();
        mail.undo();
        mail.run(2);
        Edge.that("it goes with k", state(mail, 0), "1@0");
    }
}
