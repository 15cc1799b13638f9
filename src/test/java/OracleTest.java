import java.lang.reflect.InvocationTargetException;
import java.lang.reflect.Method;
import java.nio.charset.StandardCharsets;
import java.util.ArrayList;
import java.util.HashMap;
import java.util.List;
import java.util.Map;

/** Makes the same calls, drawn from fixed seeds, of CrossingMail and of SlowMail. */
public final class OracleTest {
    private static final Map<String, Method> FAST = methods(CrossingMail.class);
    private static final Map<String, Method> SLOW = methods(SlowMail.class);
    private static final String[] OBSERVERS = {"errorOffset", "errorKind", "count", "isVillage", "stop", "placeOf",
        "nextStop", "isOnStrike", "carriersAt", "meetings", "sackOf", "carrierOf", "sackCount", "sackLetter",
        "sackValue", "officeCount", "officeLetter", "letter", "trace", "suspects", "isLate", "letters",
        "punctuality", "promise", "promisedDays", "reach", "expected", "receipt", "lastReceipt", "lostSack",
        "undoDepth", "formatLetter", "formatCarrier", "formattedByte"};

    private long seed;
    private CrossingMail fast = new CrossingMail();
    private SlowMail slow = new SlowMail();
    private final List<String> calls = new ArrayList<>();
    private boolean same = true;
    private int villages = 0;

    private OracleTest(long seed) {
        this.seed = seed * 7919 + 17;
    }

    private static Map<String, Method> methods(Class<?> type) {
        Map<String, Method> map = new HashMap<>();
        for (Method method : type.getDeclaredMethods()) {
            if (java.lang.reflect.Modifier.isPublic(method.getModifiers())) {
                map.put(method.getName(), method);
            }
        }
        return map;
    }

    private int draw(int below) {
        seed = seed * 6364136223846793005L + 1442695040888963407L;
        return (int) ((seed >>> 33) % below);
    }

    private int draw(int least, int most) {
        return least + draw(most - least + 1);
    }

    private static Object answer(Method method, Object target, Object[] arguments) {
        try {
            return method.invoke(target, arguments);
        } catch (InvocationTargetException e) {
            return e.getCause().getClass().getSimpleName();
        } catch (IllegalAccessException e) {
            throw new AssertionError(e);
        }
    }

    private Object call(String name, Object... arguments) {
        Object want = answer(SLOW.get(name), slow, arguments);
        Object got = answer(FAST.get(name), fast, arguments);
        calls.add(name + java.util.Arrays.toString(arguments) + " = " + want);
        if (!want.equals(got) && same) {
            same = false;
            System.out.println("  differs, answered " + got + " at the end of:");
            for (String line : calls) {
                System.out.println("    " + line);
            }
        }
        return want;
    }

    private String text() {
        StringBuilder text = new StringBuilder();
        int places = draw(2, 6);
        villages = 0;
        List<String> names = new ArrayList<>();
        List<String> villageNames = new ArrayList<>();
        for (int p = 0; p < places; p++) {
            boolean village = p < 2 || draw(3) > 0;
            String name = "" + (char) ('a' + p) + (draw(4) == 0 ? "bcd" : "");
            names.add(name);
            if (village) {
                villageNames.add(name);
                villages++;
            }
            text.append(village ? "village " : "crossing ").append(name).append(";");
        }
        if (draw(3) == 0) {
            text.append("capacity ").append(draw(1, 3)).append(";\n");
        }
        int carriers = draw(1, 5);
        for (int c = 0; c < carriers; c++) {
            text.append("carrier k").append((char) ('a' + c)).append(";");
            int days = draw(1, 127) | draw(0, 127);
            routes(text, names, days, c);
            if (draw(2) == 0 && days != 127) {
                routes(text, names, 127 & ~days, c);
            }
        }
        int letters = draw(0, 12);
        for (int i = 0; i < letters; i++) {
            int from = draw(villageNames.size());
            int to = (from + draw(1, villageNames.size() - 1)) % villageNames.size();
            text.append("letter ").append(villageNames.get(from)).append(" ").append(villageNames.get(to));
            text.append(draw(2) == 0 ? ";" : " insured " + draw(1, 999) + ";");
        }
        return text.length() <= 900 ? text.toString() : text.substring(0, 900);
    }

    /** A text with as many places, carriers, stops and letters as there can be. */
    private String fullText() {
        StringBuilder text = new StringBuilder("capacity 20;");
        List<String> names = new ArrayList<>();
        for (int p = 0; p < 10; p++) {
            names.add("" + (char) ('a' + p));
            text.append(p < 3 || draw(2) == 0 ? "village " : "crossing ").append(names.get(p)).append(';');
        }
        for (int c = 0; c < 5; c++) {
            text.append("carrier k").append((char) ('a' + c)).append(";route 127");
            for (int s = 0; s < 6; s++) {
                text.append(' ').append(4 * s + draw(s == 0 || s == 5 ? 3 : 4)).append(' ');
                text.append(names.get(draw(draw(2) == 0 ? 4 : 10)));
            }
            text.append(';');
        }
        for (int i = 0; i < 30; i++) {
            int from = draw(3);
            text.append("letter ").append(names.get(from)).append(' ').append(names.get((from + draw(1, 2)) % 3));
            text.append(i % 2 == 0 ? ";" : " insured" + draw(1, 9) + ";");
        }
        return text.toString();
    }

    private void routes(StringBuilder text, List<String> names, int days, int c) {
        text.append("route ").append(days);
        int hour = draw(0, 9);
        for (int s = 0; s < 6 && hour < 24; s++) {
            text.append(" ").append(hour).append(" ").append(names.get(draw(names.size())));
            hour += draw(1, 6);
        }
        text.append(";");
    }

    /** Spoils a text: takes a byte out, doubles a piece, or puts another byte in. */
    private String spoilt(String text) {
        StringBuilder changed = new StringBuilder(text);
        int times = draw(1, 2);
        for (int i = 0; i < times && changed.length() > 8; i++) {
            int at = draw(changed.length() - 5);
            switch (draw(5)) {
                case 0:
                    changed.deleteCharAt(at);
                    break;
                case 1:
                    changed.setCharAt(at, "; \t09a$Z\u00e9\u0000".charAt(draw(10)));
                    break;
                case 2:
                    changed.insert(at, changed.substring(at, at + draw(1, 4)));
                    break;
                case 3:
                    changed.setLength(at);
                    break;
                default:
                    changed.insert(at, " " + draw(0, 1300) + " ");
                    break;
            }
        }
        return changed.length() <= 900 ? changed.toString() : changed.substring(0, 900);
    }

    private void fill(String text) {
        byte[] bytes = text.getBytes(StandardCharsets.ISO_8859_1);
        call("truncate", 0);
        for (int at = 0; at < bytes.length; at += 20) {
            call("append", Texts.word(bytes, at), Texts.word(bytes, at + 4), Texts.word(bytes, at + 8),
                Texts.word(bytes, at + 12), Texts.word(bytes, at + 16));
        }
        call("truncate", bytes.length);
    }

    private int oddly(int usual, int below) {
        return draw(25) == 0 ? draw(-2, below + 1) : usual;
    }

    private int some(int what) {
        int number = slow.count(what);
        return oddly(number == 0 ? 0 : draw(number), number);
    }

    private int someVillage() {
        return oddly(draw(Math.max(1, slow.count(0))), slow.count(0));
    }

    private void act() {
        switch (draw(12)) {
            case 0:
            case 1:
            case 2:
            case 3:
                call("run", oddly(draw(3) == 0 ? draw(1, 168) : draw(1, 14), 170));
                break;
            case 4:
            case 5:
                call("post", someVillage(), someVillage(), draw(2) == 0 ? 0 : oddly(draw(0, 999), 1000));
                break;
            case 6:
                call("lose", some(2));
                break;
            case 7:
                call("find", some(4), someVillage());
                break;
            case 8:
                call("claim", some(3));
                break;
            case 9:
                call("strike", some(2), draw(3) == 0);
                break;
            case 10:
                call("setCapacity", oddly(draw(1, draw(3) == 0 ? 20 : 3), 20));
                break;
            default:
                for (int i = draw(1, 3); i > 0; i--) {
                    call("undo");
                }
                break;
        }
    }

    private void observe(String name) {
        int[] least = new int[2];
        int[] most = new int[2];
        Class<?>[] types = SLOW.get(name).getParameterTypes();
        most[0] = name.startsWith("l") || name.startsWith("form") ? slow.count(3) : 6;
        boolean journey = name.equals("promise") || name.equals("promisedDays");
        most[1] = journey ? 6 : name.endsWith("Letter") ? 30 : 9;
        least[0] = most[0] > 6 ? 0 : -1;
        if (types.length == 0) {
            call(name);
        } else if (types.length == 3) {
            call(name, draw(-1, 5), draw(-1, 7), draw(-1, 6));
        } else if (types.length == 1) {
            for (int i = name.equals("count") || name.equals("letters") ? -1 : least[0]; i <= Math.max(9, most[0]); i++) {
                call(name, i);
            }
        } else {
            for (int i = least[0]; i <= most[0]; i++) {
                for (int j = -1; j <= most[1]; j++) {
                    call(name, i, j);
                }
            }
        }
    }

    private void observeAll() {
        for (String name : OBSERVERS) {
            observe(name);
        }
        for (int i = 0; i < 40; i++) {
            call("formattedByte", i);
        }
        for (int ago = 55; ago < 62; ago++) {
            call("receipt", ago, draw(5));
        }
    }

    private boolean play(int acts, boolean full) {
        String text = full ? fullText() : text();
        fill(text);
        Object places = call("load");
        if (full && !places.equals(10)) {
            return false;
        }
        if (draw(6) == 0) {
            fill(spoilt(text()));
            call("load");
            observeAll();
        }
        for (int i = 0; i < acts && same; i++) {
            act();
            if (draw(5) == 0) {
                observeAll();
            }
            if (draw(9) == 0) {
                fill(draw(2) == 0 ? "a" : "bbcd");
                call("placeNamed");
            }
        }
        observeAll();
        call("bestWait", draw(0, 3), draw(0, 3));
        return same;
    }

    private boolean readTexts(int times) {
        for (int i = 0; i < times && same; i++) {
            fill(spoilt(text()));
            call("load");
            call("errorKind");
            call("errorOffset");
            calls.clear();
        }
        return same;
    }

    public static void main(String[] args) {
        int games = args.length > 0 ? Integer.parseInt(args[0]) : 120;
        for (int game = 0; game < games; game++) {
            Check.that("game " + game, new OracleTest(game).play(40, false), true);
            Check.that("full game " + game, new OracleTest(200000 + game).play(game % 4 == 0 ? 40 : 8, true), true);
            Check.that("texts " + game, new OracleTest(100000 + game).readTexts(60), true);
        }
        Check.done("OracleTest");
    }
}
