import java.nio.charset.StandardCharsets;

/** Puts texts into the buffer of a CrossingMail, and reads its formatted text. */
final class Texts {
    /** Three villages, a crossing, two carriers that meet there each day, three letters. */
    static final String VALLEY = "village a; village b; village c; crossing x;"
            + "carrier tom; route 127 8 a 10 x 12 b; carrier ann; route 127 9 c 10 x 14 c;"
            + "letter a c; letter a c insured 50; letter c b insured 7;";

    private Texts() {
    }

    static void fill(CrossingMail mail, String text) {
        byte[] bytes = text.getBytes(StandardCharsets.ISO_8859_1);
        mail.truncate(0);
        for (int at = 0; at < bytes.length; at += 20) {
            int left = bytes.length - at;
            int length = mail.append(word(bytes, at), word(bytes, at + 4), word(bytes, at + 8),
                    word(bytes, at + 12), word(bytes, at + 16));
            if (length == CrossingMail.NONE) {
                throw new AssertionError("the text is too long: " + text.length());
            }
            if (left < 20) {
                mail.truncate(bytes.length);
            }
        }
    }

    static int word(byte[] bytes, int at) {
        int word = 0;
        for (int i = at; i < at + 4; i++) {
            word = word << 8 | (i < bytes.length ? bytes[i] & 255 : 0);
        }
        return word;
    }

    static CrossingMail loaded(String text) {
        CrossingMail mail = new CrossingMail();
        fill(mail, text);
        mail.load();
        return mail;
    }

    static int load(CrossingMail mail, String text) {
        fill(mail, text);
        return mail.load();
    }

    /** "ok", or the kind of the error and its offset. */
    static String verdict(String text) {
        CrossingMail mail = new CrossingMail();
        fill(mail, text);
        try {
            mail.load();
            return "ok";
        } catch (IllegalArgumentException e) {
            return mail.errorKind() + "@" + mail.errorOffset();
        }
    }

    static String formatted(CrossingMail mail) {
        StringBuilder text = new StringBuilder();
        for (int i = 0; mail.formattedByte(i) != CrossingMail.NONE; i++) {
            text.append((char) mail.formattedByte(i));
        }
        return text.toString();
    }

    static String letterText(CrossingMail mail, int letter) {
        int length = mail.formatLetter(letter);
        String text = formatted(mail);
        return length == text.length() ? text : "length " + length + " of " + text;
    }

    static String carrierText(CrossingMail mail, int carrier) {
        int length = mail.formatCarrier(carrier);
        String text = formatted(mail);
        return length == text.length() ? text : "length " + length + " of " + text;
    }

    static String receiptText(CrossingMail mail, int ago) {
        StringBuilder text = new StringBuilder();
        for (int what = 0; what < 5; what++) {
            text.append(what == 0 ? "" : " ").append(mail.receipt(ago, what));
        }
        return text.toString();
    }

    /** All that undo restores, as a text. */
    static String snapshot(CrossingMail mail) {
        StringBuilder text = new StringBuilder();
        for (int what = 0; what < 9; what++) {
            text.append(mail.count(what)).append(' ').append(mail.letters(what)).append(' ');
        }
        for (int carrier = 0; carrier < mail.count(2); carrier++) {
            text.append("carrier ").append(mail.sackOf(carrier)).append(mail.isOnStrike(carrier)).append(' ');
        }
        for (int letter = 0; letter < mail.count(3); letter++) {
            text.append("letter ").append(mail.trace(letter));
            for (int what = 0; what < 9; what++) {
                text.append(' ').append(mail.letter(letter, what));
            }
        }
        for (int lost = 0; lost < mail.count(4); lost++) {
            text.append("lost ").append(mail.lostSack(lost, 0)).append(' ').append(mail.lostSack(lost, 1));
        }
        for (int ago = 0; ago < mail.count(5); ago++) {
            text.append("receipt ").append(receiptText(mail, ago));
        }
        return text.toString();
    }
}
