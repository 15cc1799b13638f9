import java.util.Arrays;

/** Promises 1 to 6: each sentence of the document that names a boundary of a new object, the buffer or a text. */
public final class EdgesInputTest {
    private static final String THREE = "village a;village b;crossing x;";
    private static final String ROUTE = THREE + "carrier k;route ";

    private EdgesInputTest() {
    }

    public static void main(String[] args) {
        newObject();
        appendOrder();
        appendLimit();
        truncateRange();
        truncateKeepsTheFirstBytes();
        bytesOfAText();
        linesOfAText();
        blanks();
        words();
        names();
        numbers();
        tooManyPlaces();
        tooManyCarriers();
        tooManyLetters();
        stopsOfARoute();
        hoursOfARoute();
        weekdaysOfARoute();
        routesOfACarrier();
        capacityOfAText();
        lettersOfAText();
        badNames();
        letterNames();
        endsTooEarly();
        everythingElse();
        placesAreNumbered();
        promisedBehindTheWholeText();
        loadReplaces();
        loadThatThrows();
        errorOffset();
        errorKind();
        Edge.done("EdgesInputTest", 1, 2, 3, 4, 5, 6);
    }

    private static void newObject() {
        Edge.says(1, "Creates a mail service without places and carriers, with the capacity 8 and an empty buffer.");
        CrossingMail mail = new CrossingMail();
        Edge.that("places, carriers, capacity", mail.count(0) + " " + mail.count(2) + " " + mail.count(6), "0 0 8");
        Edge.that("buffer", mail.truncate(1) + " " + mail.truncate(0), "false true");
        Edge.that("loading the empty buffer", new CrossingMail().load(), 0);
        for (int what = 0; what < 9; what++) {
            Edge.that("count " + what, mail.count(what) + " " + mail.letters(what), (what == 6 ? 8 : 0) + " 0");
        }
        Edge.says(1, "Time is counted in hours from 0");
        Edge.that("time", mail.count(7), 0);
        Edge.says(1, "An object is used for at most 512 calls after it has been made");
        CrossingMail busy = new CrossingMail();
        for (int call = 1; call < 512; call++) {
            busy.run(168);
        }
        Edge.that("call number 512", busy.count(7), 511 * 168);
    }

    private static void appendOrder() {
        Edge.says(2, "Appends 20 bytes to the input buffer: the four bytes of each parameter in turn, "
            + "the most significant byte first.");
        CrossingMail mail = new CrossingMail();
        Edge.that("village a;village b;",
            mail.append(0x76696c6c, 0x61676520, 0x613b7669, 0x6c6c6167, 0x6520623b), 20);
        Edge.that("two villages", mail.load(), 2);
        String text = "village abcdef;     ";
        for (int high = 0; high < 20; high++) {
            char[] signs = text.toCharArray();
            signs[high] |= 0x80;
            String verdict = Texts.verdict(new String(signs));
            Edge.that("all eight bits of byte " + high, verdict, "1@" + (high < 7 ? 0 : high));
        }
        Edge.says(2, "Returns the new length of the buffer");
        Edge.that("of an empty buffer", mail.append(0, 0, 0, 0, 0), 20);
        mail.truncate(7);
        Edge.that("of a buffer of 7 bytes", mail.append(-1, -1, -1, -1, -1), 27);
    }

    private static void appendLimit() {
        Edge.says(2, "`NONE`, and nothing is appended, if the buffer would exceed 900 bytes.");
        int space = 0x20202020;
        int line = 0x3b3b3b3b;
        for (int length = 880; length <= 900; length++) {
            CrossingMail mail = new CrossingMail();
            Texts.fill(mail, " ".repeat(length - 10) + "village a;");
            boolean room = length == 880;
            Edge.that("append to " + length, mail.append(space, space, space, space, space), room ? 900 : -1);
            Edge.that("not longer than it was", mail.truncate((room ? 900 : length) + 1), false);
            mail.append(line, line, line, line, line);
            Edge.that("nothing was appended to " + length, mail.load(), 1);
        }
    }

    private static void truncateRange() {
        Edge.says(3, "Returns true if the length was 0 to the current length; false, and nothing changes, otherwise.");
        for (int length : new int[] {0, 1, 20, 21, 899, 900}) {
            CrossingMail mail = new CrossingMail();
            Texts.fill(mail, " ".repeat(length));
            Edge.that("to -1", mail.truncate(-1), false);
            Edge.that("to the least int", mail.truncate(Integer.MIN_VALUE), false);
            Edge.that("to more than " + length, mail.truncate(length + 1), false);
            Edge.that("to the greatest int", mail.truncate(Integer.MAX_VALUE), false);
            Edge.that("to the current length " + length, mail.truncate(length), true);
            Edge.that("to 0", mail.truncate(0), true);
            Edge.that("now 0 is the current length", mail.truncate(1), false);
        }
        CrossingMail mail = new CrossingMail();
        Texts.fill(mail, "village a;");
        mail.truncate(-1);
        mail.truncate(11);
        Edge.that("a refused length leaves the bytes", mail.load(), 1);
    }

    private static void truncateKeepsTheFirstBytes() {
        Edge.says(3, "Shortens the input buffer to its first bytes.");
        CrossingMail mail = new CrossingMail();
        Texts.fill(mail, "village a;village b;crossing x;");
        mail.truncate(20);
        Edge.that("two lines are left", mail.load(), 2);
        Texts.fill(mail, "village c;village");
        mail.truncate(10);
        Edge.that("append goes on at the new length", mail.append(0x63726f73, 0x73696e67, 0x20793b20, 0x20202020,
            0x20202020), 30);
        Edge.that("a village and a crossing", mail.load() + " " + mail.isVillage(1), "2 false");
    }

    private static void bytesOfAText() {
        Edge.says(4, "The text has at most 900 bytes.");
        CrossingMail mail = new CrossingMail();
        Edge.that("900 bytes", Texts.load(mail, "village a;" + "\t".repeat(880) + "village b;"), 2);
        Edge.wrong(CrossingMail.SYNTAX, "village a;" + " ".repeat(889) + "^,");
        Edge.wrong(CrossingMail.SYNTAX, "village a;" + " ".repeat(882) + "^villages");
        Edge.wrong(CrossingMail.SYNTAX, "village a" + " ".repeat(891) + "^");
        Edge.wrong(CrossingMail.SYNTAX, "village a;" + " ".repeat(876) + "village abcdef^");
        Edge.wrong(CrossingMail.BAD_NAME, "village a;" + " ".repeat(881) + "village ^a");
        Edge.wrong(CrossingMail.BAD_NUMBER, " ".repeat(887) + "capacity\t\t^999");
        for (int cut : new int[] {9, 10, 18, 19, 20, 21, 22, 23, 24}) {
            Texts.fill(mail, "village a;capacity 12  ;");
            mail.truncate(cut);
            Check.outcome(mail::load);
            Edge.that("what stands behind the first " + cut + " bytes is not read", mail.errorOffset(),
                cut == 10 || cut == 24 ? -1 : cut);
        }
    }

    private static void linesOfAText() {
        Edge.says(4, "where { x } means zero or more and [ x ] means zero or one");
        Edge.that("no lines, so no places", new CrossingMail().load(), 0);
        Edge.correct(" \n\t");
        Edge.correct("capacity 9;");
        Edge.correct("capacity 9;capacity 8;");
        Edge.correct(THREE + "letter a b;letter a b insured 5;");
        Edge.wrong(CrossingMail.SYNTAX, THREE + "letter a b insured 5 ^insured 5;");
        Edge.wrong(CrossingMail.SYNTAX, THREE + "letter a b insured 5 ^6;");
        Edge.says(4, "text = { line \";\" }.");
        Edge.wrong(CrossingMail.SYNTAX, "^;");
        Edge.wrong(CrossingMail.SYNTAX, "capacity 9;^;");
        Edge.wrong(CrossingMail.SYNTAX, "capacity 9^");
        Edge.wrong(CrossingMail.SYNTAX, "capacity 9 ^capacity 8;");
        Edge.that("81 lines", Texts.verdict("capacity 9;".repeat(81)), "ok");
        Edge.says(4, "line = \"village\" name | \"crossing\" name | \"carrier\" name | \"route\" number stop { stop } | "
            + "\"capacity\" number | \"letter\" name name [ \"insured\" number ].");
        Edge.correct("village a;crossing x;village b;carrier k;route 1 2 a;capacity 5;letter a b;letter b a insured 1;");
        Edge.wrong(CrossingMail.SYNTAX, "village a ^b;");
        Edge.wrong(CrossingMail.SYNTAX, "crossing a ^1;");
        Edge.wrong(CrossingMail.SYNTAX, "carrier ^1;");
        Edge.wrong(CrossingMail.SYNTAX, ROUTE + "1^;");
        Edge.wrong(CrossingMail.SYNTAX, ROUTE + "1 2^;");
        Edge.wrong(CrossingMail.SYNTAX, ROUTE + "^a 2 a;");
        Edge.wrong(CrossingMail.SYNTAX, ROUTE + "1 ^a 2;");
        Edge.wrong(CrossingMail.SYNTAX, ROUTE + "1 2 a ^b;");
        Edge.wrong(CrossingMail.SYNTAX, THREE + "letter a^;");
        Edge.wrong(CrossingMail.SYNTAX, THREE + "letter a b ^7;");
        Edge.wrong(CrossingMail.SYNTAX, THREE + "letter a b insured^;");
    }

    private static void blanks() {
        Edge.says(4, "Spaces, tabs and line feeds (bytes 32, 9 and 10) may stand before the first token, "
            + "between any two tokens, and behind the last one.");
        for (char sign = 0; sign < 256; sign++) {
            boolean blank = sign == 32 || sign == 9 || sign == 10;
            boolean letter = sign >= 'a' && sign <= 'z';
            Edge.that("byte " + (int) sign + " before the first token", Texts.verdict(sign + "village a;"),
                blank ? "ok" : "1@0");
            Edge.that("byte " + (int) sign + " between two words", Texts.verdict("village" + sign + "a;"),
                blank ? "ok" : letter ? "1@0" : "1@7");
            Edge.that("byte " + (int) sign + " behind the last token", Texts.verdict("village a;" + sign),
                blank ? "ok" : "1@10");
        }
        String[] tokens = {"village", "a", ";", "village", "b", ";", "carrier", "k", ";", "route", "1", "2", "a", "3",
            "b", ";", "capacity", "5", ";", "letter", "a", "b", "insured", "7", ";"};
        for (int at = 0; at <= tokens.length; at++) {
            StringBuilder text = new StringBuilder();
            for (int i = 0; i < tokens.length; i++) {
                text.append(i == at ? "\n\t \t\n" : i == 0 ? "" : " ").append(tokens[i]);
            }
            Edge.that("several blanks before token " + at, Texts.verdict(text + (at == tokens.length ? "\t\n " : "")),
                "ok");
        }
        Edge.correct("village a;village b;carrier k;route1 2a3b;capacity5;letter a b insured7;");
    }

    private static void words() {
        Edge.says(4, "A word is a longest run of letters a to z");
        Edge.correct("village az;");
        for (char sign = 0; sign < 256; sign++) {
            if (sign != ' ' && sign != '\t' && sign != '\n' && sign != ';' && (sign < 'a' || sign > 'z')) {
                Edge.that("byte " + (int) sign + " in a word", Texts.verdict("village a" + sign + "b;"), "1@9");
            }
        }
        Edge.wrong(CrossingMail.SYNTAX, "^villagea;");
        String[][] lines = {{"", "village", " c;"}, {"", "crossing", " c;"}, {"", "carrier", " c;"}, {"", "route", " 1 2 a;"},
            {"", "capacity", " 5;"}, {"", "letter", " a b;"}, {"letter a b ", "insured", " 5;"}};
        String start = THREE + "carrier k;";
        for (String[] line : lines) {
            String keyword = line[1];
            Edge.correct(start + line[0] + keyword + line[2]);
            Edge.wrong(CrossingMail.SYNTAX, start + line[0] + "^" + keyword + "a" + line[2]);
            Edge.wrong(CrossingMail.SYNTAX, start + line[0] + "^a" + keyword + line[2]);
            for (int at = 0; at < keyword.length(); at++) {
                String before = start + line[0] + "^" + keyword.substring(0, at);
                Edge.wrong(CrossingMail.SYNTAX, before + "x" + keyword.substring(at + 1) + line[2]);
                Edge.wrong(CrossingMail.SYNTAX, before + keyword.substring(at + 1) + line[2]);
            }
        }
        Edge.wrong(CrossingMail.SYNTAX, "^Village a;");
        Edge.wrong(CrossingMail.SYNTAX, "^" + "v".repeat(899) + ";");
    }

    private static void names() {
        Edge.says(4, "a name is a word of 1 to 6 letters");
        Edge.correct("village a;crossing b;carrier c;village abcdef;crossing bcdefg;carrier cdefgh;");
        Edge.correct("village abcdef;village z;carrier k;route 1 2 abcdef;letter abcdef z;letter z abcdef;");
        Edge.wrong(CrossingMail.SYNTAX, "village ^abcdefg;");
        Edge.wrong(CrossingMail.SYNTAX, "crossing ^abcdefg;");
        Edge.wrong(CrossingMail.SYNTAX, "carrier ^abcdefg;");
        Edge.wrong(CrossingMail.SYNTAX, ROUTE + "1 2 ^abcdefg;");
        Edge.wrong(CrossingMail.SYNTAX, THREE + "letter ^abcdefg a;");
        Edge.wrong(CrossingMail.SYNTAX, THREE + "letter a ^abcdefg;");
        Edge.wrong(CrossingMail.SYNTAX, "village^;");
        Edge.wrong(CrossingMail.SYNTAX, "crossing ^;");
        Edge.wrong(CrossingMail.SYNTAX, "carrier^;");
        Edge.says(4, "a keyword can be a name, too");
        Edge.correct("village route;village letter;carrier route;carrier letter;route 1 2 letter 3 route;"
            + "letter route letter;letter letter route insured 5;");
    }

    private static void numbers() {
        Edge.says(4, "A number is a longest run of digits; it has 1 to 3 digits.");
        Edge.correct("capacity 8;");
        Edge.correct("capacity 08;");
        Edge.correct("capacity 008;");
        Edge.wrong(CrossingMail.BAD_NUMBER, "capacity ^0008;");
        Edge.wrong(CrossingMail.BAD_NUMBER, "capacity ^4294967304;");
        Edge.wrong(CrossingMail.SYNTAX, "capacity 1 ^2;");
        for (char sign = 0; sign < 256; sign++) {
            boolean digit = sign >= '0' && sign <= '9';
            boolean blank = sign == 32 || sign == 9 || sign == 10;
            String due = blank || sign == '0' ? "ok" : digit ? "2@9" : sign == ';' ? "1@11" : "1@10";
            Edge.that("byte " + (int) sign + " behind a digit", Texts.verdict("capacity 2" + sign + ";"), due);
        }
        Edge.says(4, "where a number can stand, one with more than 3 digits or out of its range");
        Edge.wrong(CrossingMail.BAD_NUMBER, ROUTE + "^0001 2 a;");
        Edge.wrong(CrossingMail.BAD_NUMBER, ROUTE + "1 ^0002 a;");
        Edge.wrong(CrossingMail.BAD_NUMBER, ROUTE + "1 2 a ^0003 b;");
        Edge.wrong(CrossingMail.BAD_NUMBER, THREE + "letter a b insured ^0005;");
        Edge.wrong(CrossingMail.SYNTAX, "village ^0001;");
        Edge.wrong(CrossingMail.SYNTAX, "village a ^0001;");
        Edge.wrong(CrossingMail.SYNTAX, "capacity 3 ^0001;");
        Edge.wrong(CrossingMail.SYNTAX, THREE + "letter a ^0001;");
        Edge.wrong(CrossingMail.SYNTAX, THREE + "letter a b ^0001;");
        Edge.wrong(CrossingMail.SYNTAX, ROUTE + "1 2 ^0001;");
    }

    private static String places(int number) {
        StringBuilder text = new StringBuilder();
        for (int place = 0; place < number; place++) {
            text.append(place % 3 == 2 ? "crossing " : "village ").append((char) ('a' + place)).append(';');
        }
        return text.toString();
    }

    private static void tooManyPlaces() {
        Edge.says(4, "There are at most 10 places");
        CrossingMail mail = new CrossingMail();
        Edge.that("ten places", Texts.load(mail, places(10)), 10);
        Edge.that("ten villages", Texts.load(mail, places(10).replace("crossing", "village")) + " " + mail.count(1),
            "10 10");
        Edge.that("ten crossings", Texts.load(mail, places(10).replace("village", "crossing")) + " " + mail.count(1),
            "10 0");
        Edge.says(4, "TOO_MANY: an 11th place, a 6th carrier or a 31st letter, at its first word");
        Edge.wrong(CrossingMail.TOO_MANY, places(10) + "^village k;");
        Edge.wrong(CrossingMail.TOO_MANY, places(10) + "^crossing k;");
        Edge.wrong(CrossingMail.TOO_MANY, places(10) + " ^village a;");
        Edge.wrong(CrossingMail.TOO_MANY, places(10) + "\n^crossing 12");
        Edge.wrong(CrossingMail.TOO_MANY, places(10) + "carrier k;^village");
    }

    private static void tooManyCarriers() {
        String five = "carrier a;carrier b;carrier c;carrier d;carrier e;";
        Edge.says(4, "There are at most 5 carriers, numbered from 0, and as many sacks, numbered from 0.");
        CrossingMail mail = Texts.loaded(five);
        Edge.that("five carriers", mail.count(2) + " " + mail.sackOf(4), "5 4");
        Edge.says(4, "an 11th place, a 6th carrier or a 31st letter, at its first word");
        Edge.wrong(CrossingMail.TOO_MANY, five + "^carrier f;");
        Edge.wrong(CrossingMail.TOO_MANY, five + " ^carrier a;");
        Edge.wrong(CrossingMail.TOO_MANY, five + "^carrier");
        Edge.wrong(CrossingMail.TOO_MANY, five + "village v;route 1 2 v;^carrier 7");
    }

    private static void tooManyLetters() {
        Edge.says(4, "There are at most 30 letters, numbered from 0 as they are posted.");
        CrossingMail mail = Texts.loaded(THREE + "letter a b;".repeat(29) + "letter b a;");
        Edge.that("thirty letters", mail.count(3) + " " + mail.letter(0, 0) + " " + mail.letter(29, 0), "30 0 1");
        Edge.says(4, "an 11th place, a 6th carrier or a 31st letter, at its first word");
        String thirty = THREE + "letter a b;".repeat(30);
        Edge.wrong(CrossingMail.TOO_MANY, thirty + "^letter a b;");
        Edge.wrong(CrossingMail.TOO_MANY, thirty + "\t^letter a a;");
        Edge.wrong(CrossingMail.TOO_MANY, thirty + "^letter");
        Edge.wrong(CrossingMail.SYNTAX, thirty + "^letters");
    }

    private static void stopsOfARoute() {
        String six = ROUTE + "1 1 a 2 b 3 x 4 a 5 b 6 x";
        Edge.says(4, "A route has 1 to 6 stops");
        Edge.correct(ROUTE + "1 1 a;");
        CrossingMail mail = Texts.loaded(six + ";");
        Edge.that("six stops", mail.stop(0, 0, 5) + " " + mail.stop(0, 0, 6), "602 -1");
        Edge.wrong(CrossingMail.SYNTAX, ROUTE + "1^;");
        Edge.correct(ROUTE + "1 1 a 2 a 3 a;");
        Edge.says(4, "a 7th stop, at its hour, whatever that is");
        Edge.wrong(CrossingMail.TOO_MANY, six + " ^7 a;");
        Edge.wrong(CrossingMail.TOO_MANY, six + " ^6 a;");
        Edge.wrong(CrossingMail.TOO_MANY, six + " ^0 a;");
        Edge.wrong(CrossingMail.TOO_MANY, six + " ^24 a;");
        Edge.wrong(CrossingMail.TOO_MANY, six + " ^0007 a;");
        Edge.wrong(CrossingMail.TOO_MANY, six + "^7");
        Edge.wrong(CrossingMail.TOO_MANY, six + "\n^7;");
        Edge.wrong(CrossingMail.SYNTAX, six + " ^a 7;");
    }

    private static void hoursOfARoute() {
        Edge.says(4, "a stop is an hour of the day (0 to 23) and a place");
        CrossingMail mail = Texts.loaded(ROUTE + "1 0 a 23 b;");
        Edge.that("hours 0 and 23", mail.stop(0, 0, 0) + " " + mail.stop(0, 0, 1), "0 2301");
        Edge.wrong(CrossingMail.BAD_NUMBER, ROUTE + "1 ^24 a;");
        Edge.wrong(CrossingMail.BAD_NUMBER, ROUTE + "1 5 a ^24 b;");
        Edge.wrong(CrossingMail.BAD_NUMBER, ROUTE + "1 23 a ^24 b;");
        Edge.wrong(CrossingMail.BAD_NUMBER, ROUTE + "1 ^999 a;");
        Edge.says(4, "an hour that is not greater than the one before");
        Edge.correct(ROUTE + "1 5 a 6 a 7 b;");
        Edge.wrong(CrossingMail.BAD_NUMBER, ROUTE + "1 5 a ^5 b;");
        Edge.wrong(CrossingMail.BAD_NUMBER, ROUTE + "1 5 a ^4 b;");
        Edge.wrong(CrossingMail.BAD_NUMBER, ROUTE + "1 0 a ^0 b;");
        Edge.wrong(CrossingMail.BAD_NUMBER, ROUTE + "1 5 a 9 b ^7 x;");
        Edge.correct(ROUTE + "1 9 a 10 b;route 2 5 a;");
    }

    private static void weekdaysOfARoute() {
        Edge.says(4, "gives the carrier that was added last a route for a set of weekdays (1 to 127; bit d stands for "
            + "weekday d)");
        for (int day = 0; day < 7; day++) {
            CrossingMail mail = Texts.loaded("village a;carrier j;carrier k;route " + (1 << day) + " 5 a;");
            StringBuilder days = new StringBuilder();
            for (int other = 0; other < 7; other++) {
                days.append(mail.stop(1, other, 0) == 500 ? 1 : 0).append(mail.stop(0, other, 0) == -1 ? "" : "?");
            }
            Edge.that("bit " + day, days.toString(), "0".repeat(day) + "1" + "0".repeat(6 - day));
        }
        Edge.correct(ROUTE + "127 1 a;");
        Edge.wrong(CrossingMail.BAD_NUMBER, ROUTE + "^0 1 a;");
        Edge.wrong(CrossingMail.BAD_NUMBER, ROUTE + "^128 1 a;");
        Edge.wrong(CrossingMail.BAD_NUMBER, ROUTE + "^999 1 a;");
        Edge.says(4, "at most one route for each weekday");
        Edge.correct(ROUTE + "85 1 a;route 42 1 a;");
        Edge.says(4, "a set of weekdays one of which has a route of this carrier already");
        Edge.wrong(CrossingMail.BAD_NUMBER, ROUTE + "1 1 a;route ^1 2 b;");
        Edge.wrong(CrossingMail.BAD_NUMBER, ROUTE + "85 1 a;route ^106 1 a;");
        Edge.wrong(CrossingMail.BAD_NUMBER, ROUTE + "1 1 a;route 2 1 a;route ^1");
        Edge.wrong(CrossingMail.BAD_NUMBER, ROUTE + "64 1 a;carrier l;route 64 1 a;route ^64 1 a;");
        Edge.correct(ROUTE + "127 1 a;carrier l;route 127 1 a;");
    }

    private static void routesOfACarrier() {
        Edge.says(4, "(also a \"route\" without a carrier before it, at this word)");
        Edge.wrong(CrossingMail.SYNTAX, "village a; ^route 1 2 a;carrier k;");
        Edge.wrong(CrossingMail.SYNTAX, "^route 0");
        Edge.correct("village a;carrier k;carrier l;");
    }

    private static void capacityOfAText() {
        Edge.says(4, "All sacks have the same capacity (1 to 20 letters).");
        Edge.that("1", Texts.loaded("capacity 1;").count(6), 1);
        Edge.that("20", Texts.loaded("capacity 20;").count(6), 20);
        Edge.wrong(CrossingMail.BAD_NUMBER, "capacity ^0;");
        Edge.wrong(CrossingMail.BAD_NUMBER, "capacity ^21;");
        Edge.says(4, "\"capacity\" sets the capacity (8 without it).");
        CrossingMail mail = Texts.loaded("capacity 3;");
        Texts.load(mail, "village a;");
        Edge.that("without it, behind a text with it", mail.count(6), 8);
        Edge.that("twice", Texts.loaded("capacity 3;capacity 5;").count(6), 5);
    }

    private static void lettersOfAText() {
        Edge.says(4, "with its value (1 to 999) behind \"insured\"");
        CrossingMail mail = Texts.loaded(THREE + "letter a b insured 1;letter a b insured 999;letter a b;");
        Edge.that("1, 999 and none", mail.letter(0, 2) + " " + mail.letter(1, 2) + " " + mail.letter(2, 2), "1 999 0");
        Edge.wrong(CrossingMail.BAD_NUMBER, THREE + "letter a b insured ^0;");
        Edge.wrong(CrossingMail.BAD_NUMBER, THREE + "letter a b insured ^1000;");
        Edge.says(4, "\"letter\" posts a letter from one village to another one");
        Edge.that("from and to", mail.letter(0, 0) + " " + mail.letter(0, 1), "0 1");
        Edge.that("in the office from which it comes", mail.officeCount(0) + " " + mail.officeCount(1), "3 0");
    }

    private static void badNames() {
        Edge.says(4, "a name of a place or a carrier that one of the same kind has already (places and carriers are "
            + "different kinds)");
        Edge.wrong(CrossingMail.BAD_NAME, "village a;village ^a;");
        Edge.wrong(CrossingMail.BAD_NAME, "village a;crossing ^a;");
        Edge.wrong(CrossingMail.BAD_NAME, "crossing a;village ^a;");
        Edge.wrong(CrossingMail.BAD_NAME, "carrier a;carrier ^a;");
        Edge.wrong(CrossingMail.BAD_NAME, places(9) + "village ^i;");
        Edge.wrong(CrossingMail.BAD_NAME, "carrier a;carrier b;carrier c;carrier d;carrier ^d;");
        Edge.correct("village a;carrier a;carrier b;village b;");
        Edge.correct("village a;village aa;village aaa;village aaaaaa;village b;village ab;village ba;");
        Edge.says(4, "a name of a stop that is not that of a place");
        Edge.correct(ROUTE + "1 1 a 2 b 3 x;");
        Edge.wrong(CrossingMail.BAD_NAME, ROUTE + "1 1 ^c;");
        Edge.wrong(CrossingMail.BAD_NAME, ROUTE + "1 1 ^k;");
        Edge.wrong(CrossingMail.BAD_NAME, ROUTE + "1 1 a 2 ^aa");
        Edge.wrong(CrossingMail.BAD_NAME, "carrier k;route 1 1 ^a;village a;");
    }

    private static void letterNames() {
        Edge.says(4, "a name of a letter that is not that of a village, or a second one that is the first one");
        Edge.wrong(CrossingMail.BAD_NAME, THREE + "letter ^c a;");
        Edge.wrong(CrossingMail.BAD_NAME, THREE + "letter ^x a;");
        Edge.wrong(CrossingMail.BAD_NAME, THREE + "letter a ^c;");
        Edge.wrong(CrossingMail.BAD_NAME, THREE + "letter a ^x;");
        Edge.wrong(CrossingMail.BAD_NAME, THREE + "letter a ^a;");
        Edge.wrong(CrossingMail.BAD_NAME, THREE + "letter b ^b insured 5;");
        Edge.wrong(CrossingMail.BAD_NAME, THREE + "carrier k;letter ^k a;");
        Edge.correct(THREE + "letter a b;letter b a;");
    }

    private static void endsTooEarly() {
        Edge.says(4, "if the text ends too early, it is the length of the text");
        String[] texts = {"village", "village ", "village a", "village a\n\t", "crossing", "carrier", "carrier k ",
            "capacity", "capacity 8", ROUTE, ROUTE + "1", ROUTE + "1 ", ROUTE + "1 5", ROUTE + "1 5 a",
            ROUTE + "1 5 a 6", ROUTE + "1 5 a 6 b ", "letter", THREE + "letter a", THREE + "letter a b",
            THREE + "letter a b insured", THREE + "letter a b insured 5"};
        for (String text : texts) {
            Edge.wrong(CrossingMail.SYNTAX, text + "^");
        }
        Edge.says(4, "a wrong word or number counts at its first byte");
        Edge.wrong(CrossingMail.SYNTAX, "village a; ^villag");
        Edge.wrong(CrossingMail.BAD_NUMBER, "capacity  ^21");
        Edge.wrong(CrossingMail.BAD_NAME, THREE + "letter  ^ab");
        Edge.wrong(CrossingMail.SYNTAX, THREE + "letter a b ^insure");
        Edge.wrong(CrossingMail.TOO_MANY, ROUTE + "1 1 a 2 a 3 a 4 a 5 a 6 a ^77");
    }

    private static void everythingElse() {
        Edge.says(4, "SYNTAX: everything else");
        for (String text : new String[] {"^1;", "^.", "^a;", "^insured 5;", "village a;^!", "village ^;", "village ^1;",
            "village a^,", "carrier k^=", "capacity ^-1;", "capacity ^x;", "capacity 5^.0;", ROUTE + "^-1 2 a;",
            ROUTE + "1 2^:30 a;", ROUTE + "1 2 ^3 a;", THREE + "letter a^-b;", THREE + "letter a b ^insurd 5;",
            THREE + "letter a b insured ^b;"}) {
            Edge.wrong(CrossingMail.SYNTAX, text);
        }
    }

    private static void placesAreNumbered() {
        Edge.says(4, "numbered from 0 in the order of the input text");
        CrossingMail mail = Texts.loaded("crossing d;village c;carrier q;crossing b;carrier p;village a;");
        String order = "";
        for (String name : new String[] {"a", "b", "c", "d"}) {
            Texts.fill(mail, name);
            order += mail.placeNamed();
        }
        Edge.that("places", order, "3210");
        Edge.that("carriers", Texts.carrierText(mail, 0) + ", " + Texts.carrierText(mail, 1), "q: 0, p: 1");
        Edge.says(4, "A place is a village, which has an office, or a crossing, which has none.");
        Edge.that("villages", mail.isVillage(0) + " " + mail.isVillage(1) + " " + mail.isVillage(2) + " "
            + mail.isVillage(3), "false true false true");
        Edge.says(4, "Returns the number of places.");
        Edge.that("of a text without carriers", Texts.load(mail, "crossing a;"), 1);
    }

    private static void promisedBehindTheWholeText() {
        Edge.says(4, "it has the promised hour that it would have if it were posted behind the whole text, at time 0");
        CrossingMail mail = Texts.loaded("village a;village b;carrier k;route 127 3 a 5 b;");
        mail.run(100);
        mail.strike(0, true);
        Texts.load(mail, "village a;village b;letter a b;carrier k;route 1 8 a;letter a b;route 2 9 b;");
        Edge.that("a letter before its carrier", mail.letter(0, 6), 33);
        Edge.that("a letter between its routes", mail.letter(1, 6), 33);
        Edge.that("posted at 0", mail.letter(0, 5) + " " + mail.letter(1, 5), "0 0");
        Texts.load(mail, "village a;village b;letter b a;carrier k;route 1 8 a;route 2 9 b;");
        Edge.that("the next week", mail.letter(0, 6), 176);
        Texts.load(mail, "village a;village b;letter a b;carrier k;route 1 8 a;");
        Edge.that("no arrival", mail.letter(0, 6), -1);
    }

    private static CrossingMail busy() {
        CrossingMail mail = Texts.loaded(Texts.VALLEY);
        mail.run(11);
        mail.lose(1);
        mail.strike(0, true);
        mail.post(1, 0, 77);
        mail.setCapacity(5);
        mail.formatCarrier(0);
        return mail;
    }

    private static void loadReplaces() {
        CrossingMail mail = busy();
        String text = "village p;village q;carrier k;route 4 1 p;carrier l;letter p q insured 3;" + "letter p q;".repeat(3);
        int places = Texts.load(mail, text);
        Edge.says(4, "Parses the input buffer as a text and replaces everything by it");
        Edge.that("as in a new object", places + Texts.snapshot(mail), 2 + Texts.snapshot(Texts.loaded(text)));
        Edge.that("no old stops", mail.stop(0, 0, 0) + " " + mail.stop(0, 2, 0) + " " + mail.stop(1, 0, 0), "-1 100 -1");
        Edge.that("no old names", Texts.carrierText(mail, 1), "l: 1");
        Edge.that("the last letter was posted at 0", mail.letter(3, 5) + " " + mail.letter(3, 2), "0 0");
        CrossingMail stops = Texts.loaded("village a;carrier k;route 127 0 a 23 a;");
        Texts.load(stops, "village a;carrier k;route 127 1 a;");
        for (int day = 0; day < 7; day++) {
            Edge.that("no old stops on day " + day, stops.stop(0, day, 0) + " " + stops.stop(0, day, 1), "100 -1");
        }
        Edge.says(4, "the time is 0, no carrier is on strike, and no action can be undone");
        mail = busy();
        Texts.load(mail, Texts.VALLEY);
        Edge.that("time", mail.count(7), 0);
        Edge.that("strikes", mail.isOnStrike(0) || mail.isOnStrike(1), false);
        Edge.that("actions", mail.undoDepth() + " " + mail.undo() + " " + mail.count(7), "0 -1 0");
        Edge.says(4, "The formatted text stays.");
        Edge.that("on success", Texts.formatted(mail), "tom: 1 2*");
        Edge.says(4, "The buffer is empty afterwards, also on an error.");
        Edge.that("on success", mail.truncate(1), false);
        Texts.fill(mail, "village a");
        Check.outcome(mail::load);
        Edge.that("on an error", mail.truncate(1), false);
        Edge.says(4, "at first carrier k has sack k");
        mail.run(11);
        Texts.load(mail, "carrier a;carrier b;carrier c;");
        Edge.that("after a swap and load", mail.sackOf(0) + " " + mail.sackOf(1) + " " + mail.sackOf(2), "0 1 2");
    }

    private static void loadThatThrows() {
        Edge.says(4, "if the text does not match; everything else stays as it is");
        String start = "village p;crossing q;village r;carrier k;route 4 1 p;letter p r;capacity 2;";
        for (String end : new String[] {"village 1;", "capacity 21;", "letter p p;", "carrier k;", "letter p r",
            "letter p r;".repeat(30)}) {
            CrossingMail mail = busy();
            String before = Texts.snapshot(mail);
            Texts.fill(mail, start + end);
            Edge.throwsArgument(end, mail::load);
            Edge.that("the state", Texts.snapshot(mail), before);
            Edge.that("the routes", mail.stop(0, 2, 0) + " " + mail.isVillage(1), "800 true");
            Edge.that("the formatted text", Texts.formatted(mail), "tom: 1 2*");
            Edge.that("the names", Texts.carrierText(mail, 1), "ann: 0");
            Edge.that("the actions", mail.undoDepth(), 5);
            mail.undo();
            Edge.that("and what they restore", mail.count(6), 8);
        }
        Edge.says(4, "A call that throws changes nothing, except that load empties the buffer and sets the error.");
        CrossingMail mail = new CrossingMail();
        Texts.fill(mail, "village a;,");
        Check.outcome(mail::load);
        Edge.that("buffer and error", mail.truncate(1) + " " + mail.errorKind() + "@" + mail.errorOffset(), "false 1@10");
        Edge.that("a new object stays as it is", mail.count(0) + " " + mail.count(6), "0 8");
    }

    private static void errorOffset() {
        Edge.says(5, "`NONE` if that call succeeded or if there was none");
        CrossingMail mail = new CrossingMail();
        Edge.that("no call", mail.errorOffset(), -1);
        Texts.fill(mail, "capacity 21;");
        Check.outcome(mail::load);
        mail.load();
        Edge.that("the latest call succeeded", mail.errorOffset(), -1);
        Edge.says(5, "Returns the error offset of the latest call of load");
        Texts.fill(mail, "?");
        Check.outcome(mail::load);
        Edge.that("offset 0", mail.errorOffset(), 0);
        Texts.fill(mail, " ".repeat(899) + "?");
        Check.outcome(mail::load);
        Edge.that("offset 899", mail.errorOffset(), 899);
        Texts.fill(mail, " ".repeat(893) + "village");
        Check.outcome(mail::load);
        Edge.that("offset 900", mail.errorOffset(), 900);
        Texts.fill(mail, "village a;");
        mail.placeNamed();
        mail.run(1);
        mail.undo();
        Edge.that("it stays until the next load", mail.errorOffset(), 900);
        Edge.says(5, "The error offset is the offset of the first byte at which no correct text can go on");
        Edge.wrong(CrossingMail.SYNTAX, "village a;village b^?village a;");
        Edge.wrong(CrossingMail.BAD_NAME, "village a;village ^a;capacity 99;");
    }

    private static void errorKind() {
        Edge.says(6, "0 if that call succeeded or if there was none");
        CrossingMail mail = new CrossingMail();
        Edge.that("no call", mail.errorKind(), 0);
        Texts.fill(mail, "capacity 21;");
        Check.outcome(mail::load);
        mail.load();
        Edge.that("the latest call succeeded", mail.errorKind(), 0);
        Edge.says(6, "Returns the kind of error of the latest call of load");
        String[] texts = {"?", "capacity 21;", "village a;village a;", "carrier a;carrier b;"
            + "carrier c;carrier d;carrier e;carrier f;"};
        int[] kinds = new int[4];
        for (int i = 0; i < 4; i++) {
            Texts.fill(mail, texts[i]);
            Check.outcome(mail::load);
            kinds[i] = mail.errorKind();
        }
        Edge.that("SYNTAX, BAD_NUMBER, BAD_NAME, TOO_MANY", Arrays.toString(kinds), "[1, 2, 3, 4]");
        mail.run(1);
        mail.undo();
        Edge.that("it stays until the next load", mail.errorKind(), 4);
    }
}
