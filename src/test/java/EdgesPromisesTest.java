/** Promises 29 to 33: each sentence of the document that names a boundary of an arrival. */
public final class EdgesPromisesTest {
    private static final String AB = "village a;village b;";
    /** The carrier is at a in hour 0 of day 0, and at b in hour 23 of day 6. */
    private static final String WEEKLY = AB + "carrier k;route 1 0 a;route 64 23 b;";

    private EdgesPromisesTest() {
    }

    public static void main(String[] args) {
        wrongJourneys();
        wrongStarts();
        promiseFromThePresentHour();
        promiseOf240Hours();
        promiseWithoutCapacities();
        promiseWithStrikes();
        swapsAreDoneFirst();
        officesThenSacks();
        promisedDays();
        promisedDaysOf240Hours();
        reach();
        bestWaitOfAWeek();
        bestWaitOfSeveral();
        bestWaitLooksFar();
        expectedInASack();
        expectedOf240Hours();
        expectedOfNeither();
        Edge.done("EdgesPromisesTest", 29, 30, 31, 32, 33);
    }

    private static Object asked(CrossingMail mail, int promise, int from, int to) {
        switch (promise) {
            case 29:
                return mail.promise(from, to);
            case 30:
                return mail.promisedDays(from, to);
            default:
                return mail.bestWait(from, to);
        }
    }

    private static void wrongJourneys() {
        for (int promise : new int[] {29, 30, 32}) {
            Edge.says(promise, "IllegalArgumentException is thrown if a parameter named from, to or village is not the number "
                + "of a village, or if from and to are the same.");
            CrossingMail mail = Texts.loaded("crossing x;" + AB + "crossing y;carrier k;route 127 1 a 2 x 3 b 4 y 5 a;");
            int[] wrong = {0, 3, 4, 10, -1, 31, 32, 33, 34, 65, Integer.MIN_VALUE, Integer.MIN_VALUE + 1, Integer.MAX_VALUE};
            for (int place : wrong) {
                Edge.throwsArgument("from " + place, () -> asked(mail, promise, place, 1));
                Edge.throwsArgument("to " + place, () -> asked(mail, promise, 2, place));
                Edge.throwsArgument("from and to " + place, () -> asked(mail, promise, place, place));
            }
            Edge.throwsArgument("a village and itself", () -> asked(mail, promise, 1, 1));
            Edge.throwsArgument("the last village and itself", () -> asked(mail, promise, 2, 2));
            Edge.throwsArgument("no places", () -> asked(new CrossingMail(), promise, 0, 1));
            Edge.that("villages 1 and 2", asked(mail, promise, 1, 2) instanceof Integer, true);
        }
    }

    private static void wrongStarts() {
        Edge.says(31, "IllegalArgumentException is thrown if a parameter named from, to or village is not the number of a "
            + "village");
        CrossingMail mail = Texts.loaded("crossing x;" + AB + "crossing y;");
        for (int place : new int[] {0, 3, 4, 10, -1, 31, 32, 33, 34, 65, Integer.MIN_VALUE, Integer.MAX_VALUE}) {
            Edge.throwsArgument("from " + place, () -> mail.reach(place));
        }
        Edge.throwsArgument("no places", () -> new CrossingMail().reach(0));
    }

    private static void promiseFromThePresentHour() {
        Edge.says(29, "if from the present hour (which is not processed yet) on it is in the office of its village alone");
        CrossingMail mail = Texts.loaded(AB + "carrier k;route 127 0 a 1 b;");
        Edge.that("in the hour of the stop", mail.promise(0, 1), 1);
        mail.run(1);
        Edge.that("behind the hour of the stop", mail.promise(0, 1), 24);
        Edge.that("the carrier comes from b now", mail.promise(1, 0), 23);
        Edge.says(29, "Returns the arrival, minus the present time");
        mail.run(167);
        Edge.that("a week later", mail.count(7) + " " + mail.promise(0, 1), "168 1");
    }

    private static void promiseOf240Hours() {
        CrossingMail mail = Texts.loaded(WEEKLY);
        Edge.says(29, "there is none if this is not so in 240 hours");
        mail.run(95);
        Edge.that("hour 335 is the 241st from 95 on", mail.count(7) + " " + mail.promise(0, 1), "95 -1");
        mail.run(1);
        Edge.that("it is the 240th from 96 on", mail.count(7) + " " + mail.promise(0, 1), "96 239");
        Edge.says(29, "`NONE` if there is none.");
        Edge.that("nobody comes", Texts.loaded(AB).promise(0, 1), -1);
        Edge.that("nobody goes there", Texts.loaded(AB + "village c;carrier k;route 127 1 a 2 b;").promise(0, 2), -1);
        CrossingMail same = Texts.loaded(AB + "carrier k;route 1 5 a;carrier l;route 64 5 b;");
        Edge.that("two that never meet", same.promise(0, 1), -1);
    }

    private static void promiseWithoutCapacities() {
        Edge.says(29, "as if there were no capacities");
        CrossingMail mail = Texts.loaded(AB + "capacity 1;carrier k;route 127 1 a 2 b;" + "letter a b;".repeat(30));
        Edge.that("thirty letters before it", mail.promise(0, 1) + " " + mail.letter(29, 6), "2 2");
        mail.run(2);
        Edge.that("a full sack", mail.sackCount(0) + " " + mail.promise(0, 1), "1 24");
    }

    private static void promiseWithStrikes() {
        Edge.says(29, "Carriers on strike now are left out.");
        CrossingMail mail = Texts.loaded(AB + "crossing x;carrier k;route 127 1 a 4 b;carrier l;route 127 1 a 2 b;"
            + "carrier m;route 127 3 x;carrier n;route 127 3 x;");
        mail.strike(1, true);
        Edge.that("one of two", mail.promise(0, 1), 4);
        mail.strike(0, true);
        Edge.that("both", mail.promise(0, 1), -1);
        mail.strike(1, false);
        Edge.that("the other one", mail.promise(0, 1), 2);
        CrossingMail swap = Texts.loaded(AB + "crossing x;carrier k;route 127 1 a 2 x 4 b;carrier l;route 127 2 x 3 b;"
            + "carrier m;route 127 2 x 8 b;");
        Edge.that("k's sack goes to m", swap.promise(0, 1), 8);
        swap.strike(2, true);
        Edge.that("it goes to l if m is on strike", swap.promise(0, 1), 3);
        swap.strike(1, true);
        Edge.that("k is alone at the crossing", swap.promise(0, 1), 4);
    }

    private static void swapsAreDoneFirst() {
        Edge.says(29, "in each hour, the swaps are done first");
        String text = AB + "village c;crossing x;carrier k;route 127 1 a 2 x 3 c;carrier l;route 127 2 x 3 b;carrier m;"
            + "route 127 2 x 4 c;";
        CrossingMail mail = Texts.loaded(text);
        Edge.that("the first one's sack goes to the last one, a day later to the second one",
            mail.promise(0, 2) + " " + mail.promise(0, 1), "4 27");
        CrossingMail chain = Texts.loaded(AB + "crossing x;carrier k;route 127 3 x 4 b;carrier l;route 127 2 x 3 x;"
            + "carrier m;route 127 1 a 2 x;");
        Edge.that("the last one's sack goes to the one before it, and on", chain.promise(0, 1), 4);
        CrossingMail set = Texts.loaded(AB + "crossing x;carrier k;route 127 2 x;carrier l;route 127 1 a 5 b;carrier m;"
            + "route 127 1 a 2 x;");
        Edge.that("a sack in the set that is not swapped stays in it", set.promise(0, 1), 5);
        CrossingMail all = Texts.loaded(AB + "crossing x;carrier k;route 127 1 a 2 x;carrier l;route 127 1 a 2 x 3 b;carrier m;"
            + "route 127 1 a 2 x;");
        Edge.that("sacks in the set that are swapped among themselves", all.promise(0, 1), 3);
        CrossingMail village = Texts.loaded(AB + "village x;carrier k;route 127 1 a 2 x 3 b;carrier l;route 127 2 x;");
        Edge.that("no swap at a village", village.promise(0, 1), 3);
        CrossingMail alone = Texts.loaded(AB + "crossing x;carrier k;route 127 1 a 2 x 3 b;");
        Edge.that("no swap of one", alone.promise(0, 1), 3);
    }

    private static void officesThenSacks() {
        Edge.says(29, "then for each carrier at a village whose sack is in the set of sacks, this village is added to the set of "
            + "offices; then for each carrier at a village that is in the set of offices, its sack is added to the set of sacks");
        CrossingMail before = Texts.loaded(AB + "village h;carrier k;route 127 2 h 3 b;carrier l;route 127 1 a 2 h;");
        Edge.that("a carrier of a lower number takes it on in the same hour", before.promise(0, 1), 3);
        CrossingMail behind = Texts.loaded(AB + "village h;carrier k;route 127 1 a 2 h;carrier l;route 127 2 h 3 b;");
        Edge.that("a carrier of a higher number takes it on in the same hour", behind.promise(0, 1), 3);
        CrossingMail waits = Texts.loaded(AB + "village h;carrier k;route 127 1 a 2 h 9 b;carrier l;route 127 4 h 5 b;");
        Edge.that("it is in an office and goes on in a sack, too", waits.promise(0, 1) + " " + waits.promise(0, 2), "5 2");
        CrossingMail carries = Texts.loaded(AB + "village h;carrier k;route 127 1 a 2 h 3 b;carrier l;route 127 4 h 5 b;");
        Edge.that("it is in a sack and in an office, too", carries.promise(0, 1), 3);
        CrossingMail stays = Texts.loaded(AB + "carrier k;route 127 1 a 9 b;carrier l;route 127 3 a 4 b;");
        Edge.that("it is in a sack and still in the first office", stays.promise(0, 1), 4);
    }

    private static void promisedDays() {
        Edge.says(30, "Returns the day of this arrival minus the present day");
        CrossingMail mail = Texts.loaded(AB + "carrier k;route 127 0 b 1 a 23 b;");
        Edge.that("at hour 0", mail.promisedDays(0, 1) + " " + mail.promisedDays(1, 0), "0 0");
        mail.run(1);
        Edge.that("at hour 1", mail.promisedDays(0, 1) + " " + mail.promisedDays(1, 0), "0 1");
        mail.run(1);
        Edge.that("at hour 2", mail.promise(0, 1) + " " + mail.promisedDays(0, 1), "45 1");
        mail.run(21);
        Edge.that("in the last hour of the day", mail.promise(0, 1) + " " + mail.promisedDays(0, 1) + " "
            + mail.promise(1, 0) + " " + mail.promisedDays(1, 0), "24 1 2 1");
        mail.run(1);
        Edge.that("in the first hour of the next day", mail.promise(0, 1) + " " + mail.promisedDays(0, 1), "23 0");
        Edge.says(30, "`NONE` if there is none.");
        mail.strike(0, true);
        Edge.that("all on strike", mail.promisedDays(0, 1), -1);
    }

    private static void promisedDaysOf240Hours() {
        Edge.says(30, "there is none if this is not so in 240 hours");
        CrossingMail mail = Texts.loaded(WEEKLY);
        mail.run(95);
        Edge.that("the 241st hour", mail.promisedDays(0, 1), -1);
        mail.run(1);
        Edge.that("the 240th hour", mail.promisedDays(0, 1), 9);
    }

    private static void reach() {
        Edge.says(31, "Returns the set of the villages, without from, to which a letter that would be posted now at from would have "
            + "an arrival, as a bit set (bit k stands for place k).");
        CrossingMail mail = Texts.loaded("village a;crossing b;village c;crossing d;village e;village f;village g;village h;"
            + "village i;village j;carrier k;route 127 1 a 2 b 3 c 4 d 5 a 6 j;carrier l;route 127 7 i;");
        Edge.that("without from and crossings", mail.reach(0) + " " + mail.reach(2) + " " + mail.reach(9), "516 513 5");
        Edge.that("nobody comes, or just one", mail.reach(4) + " " + mail.reach(8), "0 0");
        Edge.that("one village alone", Texts.loaded("village a;").reach(0), 0);
        Edge.says(31, "there is none if this is not so in 240 hours");
        CrossingMail week = Texts.loaded(WEEKLY);
        week.run(95);
        Edge.that("the 241st hour", week.reach(0), 0);
        week.run(1);
        Edge.that("the 240th hour", week.reach(0), 2);
        Edge.says(31, "Carriers on strike now are left out.");
        week.strike(0, true);
        Edge.that("on strike", week.reach(0), 0);
    }

    private static void bestWaitOfAWeek() {
        Edge.says(32, "Returns the number of hours, 0 to 167, to wait with posting");
        CrossingMail mail = Texts.loaded(WEEKLY);
        Edge.that("0 hours", mail.bestWait(0, 1), 0);
        Edge.that("167 hours", mail.bestWait(1, 0), 167);
        mail.run(1);
        Edge.that("0 hours were an hour ago", mail.bestWait(0, 1), 167);
        CrossingMail away = Texts.loaded(AB + "carrier k;route 1 0 a 1 b;");
        away.run(1);
        Edge.that("the stop is in the last hour", away.bestWait(0, 1), 167);
        Edge.says(32, "`NONE` if there is no arrival in any of these hours.");
        Edge.that("nobody comes", Texts.loaded(AB).bestWait(0, 1), -1);
        mail.strike(0, true);
        Edge.that("on strike", mail.bestWait(0, 1), -1);
    }

    private static void bestWaitOfSeveral() {
        Edge.says(32, "so that the time from posting to the arrival is shortest; of several the fewest");
        CrossingMail days = Texts.loaded(AB + "carrier k;route 127 5 a 8 b;");
        Edge.that("each day the same", days.bestWait(0, 1), 5);
        days.run(6);
        Edge.that("the next day", days.bestWait(0, 1), 23);
        CrossingMail shorter = Texts.loaded(AB + "carrier k;route 1 5 a 8 b;route 2 5 a 7 b;route 4 5 a 7 b;");
        Edge.that("an hour shorter on days 1 and 2", shorter.bestWait(0, 1), 29);
        shorter.run(30);
        Edge.that("then day 2", shorter.bestWait(0, 1), 23);
        CrossingMail two = Texts.loaded(AB + "carrier k;route 127 5 a 9 b;carrier l;route 127 6 a 9 b;");
        Edge.that("the later carrier is shorter", two.bestWait(0, 1), 6);
        Edge.says(32, "(the routes, sacks and strikes being as they are now, and swaps being done)");
        two.strike(1, true);
        Edge.that("but it is on strike now", two.bestWait(0, 1), 5);
        CrossingMail swap = Texts.loaded(AB + "crossing x;carrier k;route 127 1 a 2 x;carrier l;route 127 2 x 3 b;");
        swap.run(2);
        Edge.that("by a swap", swap.bestWait(0, 1), 23);
    }

    private static void bestWaitLooksFar() {
        Edge.says(32, "there is none if this is not so in 240 hours");
        String text = AB + "village h;carrier k;route 1 1 a;route 2 0 h;carrier l;route 1 23 h;";
        CrossingMail exact = Texts.loaded(text + "route 8 0 b;");
        Edge.that("239 hours from hour 1 on", exact.promise(0, 1) + " " + exact.bestWait(0, 1), "-1 1");
        CrossingMail late = Texts.loaded(text + "route 8 1 b;");
        Edge.that("240 hours from hour 1 on", late.promise(0, 1) + " " + late.bestWait(0, 1), "-1 -1");
    }

    private static void expectedInASack() {
        Edge.says(33, "Returns the arrival of the letter if from the present hour on it is in the sack or office in which it is "
            + "alone, minus the present time");
        CrossingMail mail = Texts.loaded(AB + "carrier k;route 127 1 a 3 b;letter a b;");
        Edge.that("in an office", mail.expected(0), 3);
        mail.run(1);
        Edge.that("the stop is in the present hour", mail.expected(0), 2);
        mail.run(1);
        Edge.that("in a sack", mail.letter(0, 3) + " " + mail.expected(0), "1 1");
        mail.run(1);
        Edge.that("it arrives in the present hour", mail.expected(0), 0);
        mail.strike(0, true);
        Edge.that("not if the carrier is on strike", mail.expected(0), -1);
        CrossingMail alone = Texts.loaded(AB + "carrier k;route 127 1 a 9 b;carrier l;route 127 3 a 5 b;letter a b;letter a b;");
        alone.strike(1, true);
        alone.run(2);
        alone.strike(1, false);
        Edge.that("in the sack alone, and no more in the office", alone.expected(0) + " " + alone.promise(0, 1), "7 3");
        CrossingMail swapped = Texts.loaded(AB + "crossing x;carrier k;route 127 1 a 2 x 3 a;carrier l;route 127 2 x 5 b;"
            + "letter a b;");
        swapped.run(3);
        Edge.that("in a sack that was swapped", swapped.letter(0, 4) + " " + swapped.expected(0), "0 2");
    }

    private static void expectedOf240Hours() {
        Edge.says(33, "there is none if this is not so in 240 hours");
        CrossingMail office = Texts.loaded(WEEKLY + "letter a b;");
        office.strike(0, true);
        office.run(95);
        office.strike(0, false);
        Edge.that("in an office, the 241st hour", office.expected(0), -1);
        office.run(1);
        Edge.that("in an office, the 240th hour", office.expected(0), 239);
        CrossingMail sack = Texts.loaded(AB + "village h;carrier k;route 1 0 a;route 64 23 h;carrier l;route 64 22 h;"
            + "route 4 20 b;carrier m;route 64 23 h;route 1 5 b;letter a b;");
        sack.run(1);
        sack.strike(2, true);
        sack.run(163);
        Edge.that("in a sack, the 241st hour", sack.letter(0, 3) + " " + sack.expected(0), "1 -1");
        sack.run(1);
        Edge.that("in a sack, the 240th hour", sack.letter(0, 3) + " " + sack.expected(0), "1 239");
    }

    private static void expectedOfNeither() {
        Edge.says(33, "`NONE` if there is none, or if it is in neither.");
        CrossingMail mail = Texts.loaded(AB + "carrier k;route 127 1 a 3 b;letter a b;letter b a;letter a b;");
        mail.run(2);
        mail.lose(0);
        Edge.that("in a lost sack", mail.letter(0, 3) + " " + mail.expected(0), "3 -1");
        mail.find(0, 1);
        Edge.that("in a hand", mail.letter(0, 3) + " " + mail.expected(0), "2 -1");
        mail.strike(0, true);
        Edge.that("in an office without an arrival", mail.letter(1, 3) + " " + mail.expected(1), "0 -1");
        Edge.says(33, "IndexOutOfBoundsException is thrown if a parameter named place, carrier, sack, letter or lost is not the "
            + "number of an existing one.");
        for (int letter : new int[] {-1, 3, 29, 30, 32, Integer.MIN_VALUE, Integer.MAX_VALUE}) {
            Edge.throwsIndex("letter " + letter, () -> mail.expected(letter));
        }
        Edge.throwsIndex("no letters", () -> Texts.loaded(AB).expected(0));
    }
}
