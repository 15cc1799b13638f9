/** Promises 37 and 39 to 45: each sentence of the document that names a boundary of an action. */
public final class EdgesActionsTest {
    private static final String AB = "village a;village b;";
    private static final String DAILY = AB + "crossing x;carrier k;route 127 1 a 2 b;carrier l;";
    private static final int[] WRONG = {-1, Integer.MIN_VALUE, Integer.MAX_VALUE, 31, 32, 33, 64, -32};

    private EdgesActionsTest() {
    }

    public static void main(String[] args) {
        postValue();
        postJourney();
        postThirty();
        postedNow();
        wrongCarriers();
        loseSack();
        loseNumber();
        loseEmptySack();
        findSack();
        findWrongly();
        findBehind();
        claimAfter72Hours();
        claimRefused();
        claimedBefore();
        claimOfASackLostAgain();
        strike();
        capacityRange();
        capacityOfNow();
        undoOfNone();
        undoOfEight();
        undoRestores();
        undoLeavesTheRest();
        recordedActions();
        refusedActions();
        depth();
        Edge.done("EdgesActionsTest", 37, 39, 40, 41, 42, 43, 44, 45);
    }

    private static void postValue() {
        CrossingMail mail = Texts.loaded(DAILY);
        Edge.says(37, "`value`: 0 to 999");
        Edge.that("0 and 999", mail.post(0, 1, 0) + " " + mail.post(1, 0, 999) + " " + mail.letter(0, 2) + " "
            + mail.letter(1, 2), "0 1 0 999");
        Edge.says(37, "also if value is out of range");
        for (int value : new int[] {-1, 1000, 1001, Integer.MIN_VALUE, Integer.MAX_VALUE}) {
            Edge.throwsArgument("value " + value, () -> mail.post(0, 1, value));
        }
        Edge.says(37, "it is insured if this is not 0");
        Edge.that("one of two", mail.letters(4), 1);
        mail.post(0, 1, 1);
        Edge.that("value 1", mail.letters(4), 2);
    }

    private static void postJourney() {
        Edge.says(37, "IllegalArgumentException is thrown if a parameter named from, to or village is not the number of a village, or "
            + "if from and to are the same.");
        CrossingMail mail = Texts.loaded("crossing x;" + AB + "crossing y;");
        for (int place : new int[] {0, 3, 4, 10, -1, 31, 32, 33, 34, 65, Integer.MIN_VALUE, Integer.MAX_VALUE}) {
            Edge.throwsArgument("from " + place, () -> mail.post(place, 1, 0));
            Edge.throwsArgument("to " + place, () -> mail.post(1, place, 0));
            Edge.throwsArgument("both " + place, () -> mail.post(place, place, 0));
        }
        Edge.throwsArgument("the same", () -> mail.post(1, 1, 0));
        Edge.throwsArgument("no places", () -> new CrossingMail().post(0, 1, 0));
        Edge.that("nothing is posted", mail.count(3) + " " + mail.undoDepth(), "0 0");
    }

    private static void postThirty() {
        Edge.says(37, "if there are 30 letters");
        CrossingMail mail = Texts.loaded(DAILY + "letter a b;".repeat(28));
        Edge.that("the 29th and the 30th", mail.post(0, 1, 5) + " " + mail.post(0, 1, 5), "28 29");
        String before = Texts.snapshot(mail);
        Edge.throwsState("the 31st", () -> mail.post(0, 1, 5));
        Edge.that("nothing changes", mail.undoDepth() + Texts.snapshot(mail), 2 + before);
        Edge.says(37, "When several exceptions apply, the one that is listed first in the method's throws clause is thrown.");
        Edge.throwsArgument("a wrong value", () -> mail.post(0, 1, 1000));
        Edge.throwsArgument("a crossing", () -> mail.post(0, 2, 0));
        Edge.throwsArgument("the same village", () -> mail.post(1, 1, 0));
        Edge.says(37, "Returns its number.");
        mail.undo();
        Edge.that("the 30th again", mail.post(1, 0, 0) + " " + mail.letter(29, 0), "29 1");
        mail.run(168);
        mail.run(168);
        Edge.throwsState("letters in hands count, too", () -> mail.post(0, 1, 5));
    }

    private static void postedNow() {
        Edge.says(37, "A letter that is posted is in the office of the village from which it comes.");
        CrossingMail mail = Texts.loaded(DAILY);
        mail.run(1);
        mail.post(0, 1, 7);
        Edge.that("also if a carrier is there", mail.letter(0, 3) + " " + mail.letter(0, 4) + " " + mail.count(5) + " "
            + mail.trace(0), "0 0 0 0");
        Edge.that("posted at 1, promised for 2", mail.letter(0, 5) + " " + mail.letter(0, 6), "1 2");
        mail.run(1);
        Edge.that("the carrier takes it in this hour", mail.letter(0, 3), 1);
        Edge.says(37, "it has none if there is no arrival");
        Edge.that("no way from b", mail.letter(mail.post(1, 0, 0), 6), 25);
        mail.strike(0, true);
        Edge.that("on strike", mail.letter(mail.post(0, 1, 0), 6), -1);
    }

    private static Object act(CrossingMail mail, int promise, int carrier) {
        return promise == 39 ? (Object) mail.lose(carrier) : (Object) mail.strike(carrier, promise == 42);
    }

    private static void wrongCarriers() {
        for (int promise : new int[] {39, 42}) {
            Edge.says(promise, "IndexOutOfBoundsException is thrown if a parameter named place, carrier, sack, letter or lost is not "
                + "the number of an existing one.");
            for (String text : new String[] {"", AB, DAILY, "carrier k;carrier l;carrier m;carrier n;carrier o;"}) {
                CrossingMail mail = Texts.loaded(text);
                int carriers = mail.count(2);
                Edge.throwsIndex("one more than the last of " + carriers, () -> act(mail, promise, carriers));
                for (int carrier : WRONG) {
                    Edge.throwsIndex("carrier " + carrier, () -> act(mail, promise, carrier));
                }
                Edge.that("nothing is recorded", mail.undoDepth(), 0);
            }
        }
    }

    private static void loseSack() {
        Edge.says(39, "all letters in it are in a lost sack, which also has the carrier and the hour");
        CrossingMail mail = Texts.loaded(DAILY + "letter a b;letter b a;letter a b;");
        mail.run(2);
        Edge.that("two letters", mail.lose(0), 2);
        Edge.that("lost", mail.letter(0, 3) + " " + mail.letter(1, 3) + " " + mail.letter(2, 3) + " " + mail.lostSack(0, 0) + " "
            + mail.lostSack(0, 1), "3 0 3 0 2");
        Edge.says(39, "the carrier has an empty sack with the same number");
        Edge.that("sack 0", mail.sackOf(0) + " " + mail.carrierOf(0) + " " + mail.sackCount(0), "0 0 0");
        mail.run(1);
        Edge.that("and it can be filled", mail.letter(1, 3) + " " + mail.letter(1, 4), "1 0");
        Edge.says(39, "Lost sacks are numbered from 0, the earliest one first");
        Edge.that("the second one", mail.lose(0) + " " + mail.letter(0, 4) + " " + mail.letter(1, 4), "1 0 1");
        CrossingMail swap = Texts.loaded(AB + "crossing x;carrier k;route 127 1 a 2 x;carrier l;route 127 2 x 9 b;letter a b;");
        swap.run(3);
        Edge.that("the sack that the carrier has now", swap.lose(0) + " " + swap.lose(1) + " " + swap.sackOf(1), "0 1 0");
    }

    private static void loseNumber() {
        Edge.says(39, "Returns the number of letters in it.");
        CrossingMail mail = Texts.loaded(AB + "capacity 20;carrier k;route 127 1 a 2 b;" + "letter a b;".repeat(21));
        mail.run(2);
        mail.strike(0, true);
        mail.setCapacity(1);
        Edge.that("twenty, of a carrier on strike and above the capacity", mail.lose(0) + " " + mail.lose(0), "20 0");
        mail.strike(0, false);
        mail.run(24);
        Edge.that("one", mail.lose(0), 1);
    }

    private static void loseEmptySack() {
        Edge.says(39, "if the sack is empty, there is no lost sack");
        CrossingMail mail = Texts.loaded(DAILY);
        Edge.that("no letters at all", mail.lose(0) + " " + mail.lose(1) + " " + mail.count(4), "0 0 0");
        Edge.says(39, "A successful call of one of them is recorded even if it changes nothing.");
        Edge.that("recorded", mail.undoDepth(), 2);
    }

    private static CrossingMail lostThree() {
        CrossingMail mail = Texts.loaded(AB + "village h;crossing x;capacity 2;carrier k;route 127 1 a 2 b;"
            + "letter a b insured 1;letter a b;letter a b insured 3;letter a b insured 4;letter a b;");
        for (int day = 0; day < 3; day++) {
            mail.run(2);
            mail.lose(0);
            mail.run(22);
        }
        return mail;
    }

    private static void findSack() {
        Edge.says(40, "those of its letters that go to the village where it is found are in the hand of who gets them since the "
            + "present hour, and all others are in the office of this village");
        CrossingMail mail = lostThree();
        Edge.that("at b", mail.find(0, 1), 2);
        Edge.that("in hands", mail.letter(0, 3) + " " + mail.letter(0, 4) + " " + mail.letter(0, 7) + " " + mail.letter(1, 3),
            "2 1 72 2");
        Edge.that("at h", mail.find(0, 2), 2);
        Edge.that("in the office", mail.letter(2, 3) + " " + mail.letter(2, 4) + " " + mail.letter(2, 7) + " " + mail.letter(3, 4),
            "0 2 -1 2");
        Edge.that("at a", mail.find(0, 0), 1);
        Edge.that("goes on from a", mail.run(3) + " " + mail.letter(4, 3), "1 2");
        Edge.says(40, "Returns the number of its letters.");
        CrossingMail most = Texts.loaded(AB + "capacity 20;carrier k;route 127 1 a 2 b;" + "letter a b;".repeat(20));
        most.run(2);
        most.lose(0);
        Edge.that("twenty", most.find(0, 1) + " " + most.letters(2), "20 20");
    }

    private static void findWrongly() {
        CrossingMail mail = lostThree();
        String before = Texts.snapshot(mail);
        Edge.says(40, "IndexOutOfBoundsException is thrown if a parameter named place, carrier, sack, letter or lost is not the number of "
            + "an existing one.");
        for (int lost : new int[] {-1, 3, 4, 30, Integer.MIN_VALUE, Integer.MAX_VALUE}) {
            Edge.throwsIndex("lost " + lost, () -> mail.find(lost, 0));
        }
        Edge.throwsIndex("none is lost", () -> Texts.loaded(DAILY).find(0, 0));
        Edge.says(40, "IllegalArgumentException is thrown if a parameter named from, to or village is not the number of a village");
        for (int village : new int[] {3, 4, 10, -1, 31, 32, 33, Integer.MIN_VALUE, Integer.MAX_VALUE}) {
            Edge.throwsArgument("village " + village, () -> mail.find(2, village));
        }
        Edge.says(40, "When several exceptions apply, the one that is listed first in the method's throws clause is thrown.");
        Edge.throwsIndex("lost and village", () -> mail.find(3, 3));
        Edge.throwsIndex("lost and village below", () -> mail.find(-1, -1));
        Edge.says(40, "A call that throws changes nothing");
        Edge.that("state and actions", mail.undoDepth() + Texts.snapshot(mail), 8 + before);
    }

    private static void findBehind() {
        Edge.says(40, "the numbers of the lost sacks behind it decrease by 1");
        CrossingMail first = lostThree();
        first.find(0, 0);
        Edge.that("behind the first one", first.letter(2, 4) + " " + first.letter(4, 4) + " " + first.lostSack(0, 1) + " "
            + first.lostSack(1, 1), "0 1 26 50");
        CrossingMail second = lostThree();
        second.find(1, 0);
        Edge.that("behind the second one", second.letter(0, 4) + " " + second.letter(4, 4) + " " + second.lostSack(0, 1) + " "
            + second.lostSack(1, 1), "0 1 2 50");
        CrossingMail last = lostThree();
        last.find(2, 0);
        Edge.that("behind the last one", last.letter(0, 4) + " " + last.letter(2, 4) + " " + last.lostSack(1, 1), "0 1 26");
        last.run(2);
        last.lose(0);
        Edge.that("a new one has the free number", last.letter(4, 3) + " " + last.letter(4, 4) + " " + last.lostSack(2, 1), "3 2 74");
    }

    private static void claimAfter72Hours() {
        Edge.says(41, "Claims the value of an insured letter that has been in a lost sack for at least 72 hours.");
        CrossingMail mail = Texts.loaded(DAILY + "letter a b insured 999;letter a b;letter a b insured 1;");
        mail.run(2);
        mail.lose(0);
        mail.run(71);
        Edge.throwsState("after 71 hours", () -> mail.claim(0));
        mail.run(1);
        Edge.that("after 72 hours", mail.claim(0), 999);
        Edge.that("claimed", mail.letter(0, 8) + " " + mail.letter(2, 8) + " " + mail.letters(7), "1 0 1");
        mail.run(168);
        Edge.that("later", mail.claim(2), 1);
        Edge.says(41, "Returns its value.");
        Edge.that("the value stays", mail.letter(0, 2) + " " + mail.letter(0, 3), "999 3");
    }

    private static void claimRefused() {
        Edge.says(41, "if it is not insured, is not in a lost sack for so long, or was claimed before");
        CrossingMail mail = Texts.loaded(DAILY + "letter a b insured 5;letter a b;letter b a insured 5;");
        Edge.throwsState("in an office", () -> mail.claim(0));
        mail.run(2);
        Edge.throwsState("in a sack", () -> mail.claim(0));
        mail.lose(0);
        Edge.throwsState("in a lost sack for 0 hours", () -> mail.claim(0));
        mail.run(100);
        Edge.throwsState("not insured", () -> mail.claim(1));
        Edge.throwsState("in a hand", () -> mail.claim(2));
        int depth = mail.undoDepth();
        Edge.that("100 hours", mail.claim(0), 5);
        Edge.throwsState("claimed before", () -> mail.claim(0));
        Edge.that("one action", mail.undoDepth(), depth + 1);
        Edge.says(41, "IndexOutOfBoundsException is thrown if a parameter named place, carrier, sack, letter or lost is not the number of "
            + "an existing one.");
        for (int letter : new int[] {-1, 3, 29, 30, Integer.MIN_VALUE, Integer.MAX_VALUE}) {
            Edge.throwsIndex("letter " + letter, () -> mail.claim(letter));
        }
        Edge.throwsIndex("no letters", () -> Texts.loaded(AB).claim(0));
    }

    private static void claimedBefore() {
        Edge.says(41, "or was claimed before");
        CrossingMail mail = Texts.loaded(DAILY + "letter a b insured 5;");
        mail.run(2);
        mail.lose(0);
        mail.run(72);
        mail.claim(0);
        mail.find(0, 0);
        Edge.throwsState("found", () -> mail.claim(0));
        mail.run(24);
        mail.lose(0);
        mail.run(168);
        Edge.that("lost again", mail.letter(0, 3) + " " + mail.letter(0, 8), "3 1");
        Edge.throwsState("claimed when it was lost before", () -> mail.claim(0));
        for (int i = 0; i < 5; i++) {
            mail.undo();
        }
        Edge.that("undone, it can be claimed", mail.letter(0, 8) + " " + mail.claim(0), "0 5");
    }

    private static void claimOfASackLostAgain() {
        Edge.says(41, "an insured letter that has been in a lost sack for at least 72 hours");
        CrossingMail mail = Texts.loaded(DAILY + "letter a b insured 5;");
        mail.run(2);
        mail.lose(0);
        mail.run(71);
        mail.find(0, 0);
        mail.run(1);
        mail.lose(0);
        mail.run(71);
        Edge.throwsState("71 hours in the second lost sack", () -> mail.claim(0));
        mail.run(1);
        Edge.that("72 hours in the second lost sack", mail.claim(0), 5);
        CrossingMail two = Texts.loaded(AB + "capacity 1;carrier k;route 127 1 a 2 b;letter a b insured 5;letter a b insured 6;");
        two.run(2);
        two.lose(0);
        two.run(24);
        two.lose(0);
        two.run(48);
        Edge.throwsState("the later sack", () -> two.claim(1));
        Edge.that("the earlier sack", two.claim(0), 5);
        two.find(0, 0);
        Edge.throwsState("the later sack, which is the first one now", () -> two.claim(1));
        two.run(24);
        Edge.that("a day later", two.claim(1), 6);
    }

    private static void strike() {
        Edge.says(42, "Returns true if it was on strike.");
        CrossingMail mail = Texts.loaded("village a;carrier k;route 127 1 a;carrier l;carrier m;carrier n;carrier o;");
        Edge.that("on, on, off, off, on", mail.strike(4, true) + " " + mail.strike(4, true) + " " + mail.strike(4, false) + " "
            + mail.strike(4, false) + " " + mail.strike(4, true), "false true true false false");
        Edge.that("the others work", mail.strike(0, false) + " " + mail.strike(3, false), "false false");
        Edge.says(42, "A carrier goes on strike, or works again.");
        mail.run(1);
        Edge.that("works", mail.placeOf(0), 0);
        mail.strike(0, true);
        Edge.that("on strike", mail.placeOf(0) + " " + mail.isOnStrike(0) + " " + mail.isOnStrike(4), "-1 true true");
    }

    private static void capacityRange() {
        CrossingMail mail = Texts.loaded(DAILY);
        Edge.says(43, "`capacity`: 1 to 20");
        Edge.that("1 and 20", mail.setCapacity(1) + " " + mail.setCapacity(20) + " " + mail.count(6), "8 1 20");
        Edge.says(43, "if capacity is out of range");
        for (int capacity : new int[] {0, -1, 21, 22, Integer.MIN_VALUE, Integer.MAX_VALUE}) {
            Edge.throwsArgument("capacity " + capacity, () -> mail.setCapacity(capacity));
        }
        Edge.that("it stays", mail.count(6) + " " + mail.undoDepth(), "20 2");
        Edge.says(43, "Returns the capacity before.");
        Edge.that("the same", mail.setCapacity(20) + " " + mail.setCapacity(7) + " " + mail.setCapacity(8), "20 20 7");
        Edge.that("of a new object", new CrossingMail().setCapacity(1), 8);
    }

    private static void capacityOfNow() {
        Edge.says(43, "letters that are in sacks stay there until the next village");
        CrossingMail mail = Texts.loaded(AB + "village h;crossing x;carrier k;route 127 1 a 2 x 4 h 5 b;carrier l;"
            + "route 127 2 x 3 x 4 h 5 b;" + "letter a b;".repeat(3));
        mail.run(2);
        mail.setCapacity(1);
        Edge.that("now", mail.sackCount(0), 3);
        mail.run(1);
        Edge.that("at a crossing", mail.carrierOf(0) + " " + mail.sackCount(0), "1 3");
        mail.run(1);
        Edge.that("under way", mail.sackCount(0), 3);
        mail.run(1);
        Edge.that("at a village", mail.sackCount(0) + " " + mail.sackCount(1) + " " + mail.officeCount(2), "1 1 1");
        CrossingMail end = Texts.loaded(DAILY + "letter a b;".repeat(3));
        end.run(2);
        end.setCapacity(1);
        Edge.that("all come into hands", end.run(1), 3);
    }

    private static void undoOfNone() {
        Edge.says(44, "`NONE`, and nothing changes, if there was none");
        Edge.that("a new object", new CrossingMail().undo(), -1);
        CrossingMail mail = Texts.loaded(Texts.VALLEY);
        String before = Texts.snapshot(mail);
        Edge.that("a text", mail.undo() + " " + mail.undoDepth() + Texts.snapshot(mail), "-1 0" + before);
        mail.run(5);
        mail.undo();
        Edge.that("twice", mail.undo() + " " + mail.undo() + " " + mail.undoDepth() + Texts.snapshot(mail), "-1 -1 0" + before);
        mail.run(5);
        Edge.that("and then an action", mail.undo() + Texts.snapshot(mail), 0 + before);
        mail.run(5);
        Texts.load(mail, Texts.VALLEY);
        Edge.that("the actions before load", mail.undo() + Texts.snapshot(mail), -1 + before);
    }

    private static void undoOfEight() {
        Edge.says(44, "The last 8 recorded actions can be undone.");
        for (int actions = 7; actions <= 20; actions++) {
            CrossingMail mail = Texts.loaded("");
            for (int hours = 1; hours <= actions; hours++) {
                mail.run(hours);
            }
            int time = actions * (actions + 1) / 2;
            int depth = Math.min(actions, 8);
            for (int left = depth - 1; left >= 0; left--) {
                time -= actions - (depth - 1 - left);
                Edge.that(left + " left of " + actions, mail.undo() + " " + mail.count(7), left + " " + time);
            }
            Edge.that("one too many of " + actions, mail.undo() + " " + mail.count(7), "-1 " + time);
        }
        Edge.says(44, "Returns the number of actions that can still be undone");
        CrossingMail mixed = Texts.loaded("");
        for (int round = 0; round < 10; round++) {
            mixed.run(10);
            mixed.run(1);
            mixed.undo();
        }
        Edge.that("between actions", mixed.undoDepth() + " " + mixed.undo() + " " + mixed.count(7), "7 6 90");
    }

    private static void undoRestores() {
        Edge.says(44, "Undoing an action restores everything but the buffer, the error and the formatted text as it was before the "
            + "action.");
        CrossingMail mail = Texts.loaded(Texts.VALLEY);
        mail.run(11);
        mail.lose(1);
        mail.run(72);
        String before = Texts.snapshot(mail);
        int depth = mail.undoDepth();
        Check.Call[] actions = {() -> mail.post(0, 1, 5), () -> mail.run(168), () -> mail.lose(0), () -> mail.claim(1),
            () -> mail.find(0, 1), () -> mail.strike(1, true), () -> mail.setCapacity(1)};
        for (int i = 0; i < actions.length; i++) {
            Edge.that("action " + i + " throws", Check.outcome(actions[i]) instanceof String, false);
            Edge.that("action " + i, mail.undo() + Texts.snapshot(mail), depth + before);
        }
        for (Check.Call action : actions) {
            Edge.that("an action throws", Check.outcome(action) instanceof String, false);
        }
        mail.run(1);
        for (int i = 7; i > 0; i--) {
            mail.undo();
        }
        Edge.that("eight actions", mail.undo() + Texts.snapshot(mail), 0 + before);
    }

    private static void undoLeavesTheRest() {
        Edge.says(44, "everything but the buffer, the error and the formatted text");
        CrossingMail mail = Texts.loaded(Texts.VALLEY);
        mail.run(11);
        Texts.fill(mail, "village a;#");
        Check.outcome(mail::load);
        mail.formatCarrier(0);
        Texts.fill(mail, "x");
        mail.undo();
        Edge.that("the error", mail.errorKind() + "@" + mail.errorOffset(), "1@10");
        Edge.that("the formatted text", Texts.formatted(mail), "tom: 1 2*");
        Edge.that("the buffer", mail.truncate(2) + " " + mail.placeNamed(), "false 3");
    }

    private static void recordedActions() {
        Edge.says(45, "A successful call of one of them is recorded even if it changes nothing.");
        CrossingMail mail = Texts.loaded(DAILY);
        mail.lose(1);
        mail.strike(0, false);
        mail.setCapacity(8);
        Edge.that("lose, strike and setCapacity", mail.undoDepth(), 3);
        mail.strike(0, true);
        mail.strike(0, true);
        mail.undo();
        Edge.that("a strike that goes on", mail.isOnStrike(0) + " " + mail.undoDepth(), "true 4");
        Edge.says(45, "The methods post, run, lose, find, claim, strike and setCapacity are undoable actions.");
        String before = Texts.snapshot(mail);
        Check.Call[] questions = {() -> mail.append(0, 0, 0, 0, 0), () -> mail.truncate(1), () -> mail.placeNamed(),
            () -> mail.nextStop(0), () -> mail.meetings(), () -> mail.punctuality(), () -> mail.promise(0, 1),
            () -> mail.promisedDays(0, 1), () -> mail.reach(0), () -> mail.bestWait(0, 1), () -> mail.formatCarrier(0),
            () -> mail.formattedByte(0), () -> mail.errorKind(), () -> mail.undoDepth()};
        for (int i = 0; i < questions.length; i++) {
            Check.outcome(questions[i]);
            Edge.that("no action is question " + i, mail.undoDepth() + Texts.snapshot(mail), 4 + before);
        }
        CrossingMail all = Texts.loaded(DAILY + "letter a b insured 1;");
        all.run(2);
        all.lose(0);
        all.run(72);
        all.claim(0);
        all.find(0, 0);
        all.post(0, 1, 0);
        Edge.that("five kinds", all.undoDepth(), 6);
    }

    private static void refusedActions() {
        Edge.says(45, "A call that throws changes nothing");
        CrossingMail mail = Texts.loaded(Texts.VALLEY);
        mail.run(11);
        mail.lose(1);
        mail.formatCarrier(0);
        Texts.fill(mail, "x");
        String before = Texts.snapshot(mail);
        Check.Call[] calls = {() -> mail.post(0, 3, 0), () -> mail.post(0, 1, -1), () -> mail.run(0), () -> mail.run(169),
            () -> mail.lose(2), () -> mail.find(1, 0), () -> mail.find(0, 3), () -> mail.claim(0), () -> mail.claim(9),
            () -> mail.strike(2, true), () -> mail.strike(-1, false), () -> mail.setCapacity(0), () -> mail.setCapacity(21),
            () -> mail.formatLetter(3), () -> mail.formatCarrier(-1), () -> mail.count(9), () -> mail.letter(0, 9)};
        for (int i = 0; i < calls.length; i++) {
            Edge.that("call " + i, Check.outcome(calls[i]).toString().endsWith("Exception"), true);
            Edge.that("state after call " + i, mail.undoDepth() + Texts.snapshot(mail), 2 + before);
        }
        Edge.that("formatted text, error and buffer", Texts.formatted(mail) + mail.errorOffset() + mail.placeNamed(),
            "tom: 1 2*-13");
    }

    private static void depth() {
        Edge.says(45, "Returns the number of actions that can be undone.");
        CrossingMail mail = new CrossingMail();
        Edge.that("a new object", mail.undoDepth(), 0);
        for (int action = 1; action <= 20; action++) {
            mail.run(1);
            Edge.that("after " + action, mail.undoDepth(), Math.min(8, action));
        }
        for (int left = 7; left >= 0; left--) {
            mail.undo();
            Edge.that("after an undo", mail.undoDepth(), left);
        }
        mail.undo();
        Edge.that("never below 0", mail.undoDepth(), 0);
        Edge.says(45, "no action can be undone");
        mail.run(1);
        mail.load();
        Edge.that("after load", mail.undoDepth(), 0);
        mail.run(1);
        Texts.fill(mail, "?");
        Check.outcome(mail::load);
        Edge.that("after a load that throws", mail.undoDepth(), 1);
    }
}
