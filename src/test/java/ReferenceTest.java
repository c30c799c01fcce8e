import java.lang.reflect.InvocationTargetException;
import java.lang.reflect.Method;
import java.lang.reflect.Modifier;
import java.util.ArrayList;
import java.util.Comparator;
import java.util.List;
import java.util.Random;

/** Runs of up to 512 calls, the same for the program and for the reference; a fixed seed makes them. */
public final class ReferenceTest {
    private static final String[] PIECES = {"round", "left", "right", "pass", "next", ",", ";", " ", "\n", "0", "1",
        "2", "00", "12", "23", "66", "70", "123", "rounds", "x", "-", "00 01 11 12 22 23 33 34 44"};
    private static final List<Method> CALLS = calls();

    private final Random random;
    private final DominoChains game = new DominoChains();
    private final Reference reference = new Reference();
    private final List<String> done = new ArrayList<>();
    private int made = 0;
    private boolean wrong = false;

    private ReferenceTest(long seed) {
        random = new Random(seed);
    }

    public static void main(String[] args) {
        for (int seed = 0; seed < 400; seed++) {
            new ReferenceTest(seed).run(seed % 20 == 0 ? 8 : 5);
        }
        Check.end();
    }

    private static List<Method> calls() {
        List<Method> calls = new ArrayList<>();
        for (Method method : DominoChains.class.getDeclaredMethods()) {
            if (Modifier.isPublic(method.getModifiers())) {
                calls.add(method);
            }
        }
        calls.sort(Comparator.comparing(Method::getName));
        return calls;
    }

    private void run(int longest) {
        while (made < 500 && !wrong) {
            if (random.nextInt(60) == 0 || made == 0) {
                loadText(longest);
            } else if (random.nextInt(3) == 0) {
                edit();
            } else {
                Method call = CALLS.get(random.nextInt(CALLS.size()));
                if (!call.getName().equals("load") && !call.getName().equals("append")) {
                    compare(call.getName(), arguments(call));
                }
            }
        }
    }

    private Object[] arguments(Method call) {
        Class<?>[] types = call.getParameterTypes();
        Object[] arguments = new Object[types.length];
        for (int i = 0; i < types.length; i++) {
            arguments[i] = types[i] == boolean.class ? (Object) random.nextBoolean() : (Object) number();
        }
        return arguments;
    }

    private int number() {
        switch (random.nextInt(12)) {
            case 0:
                return random.nextInt();
            case 1:
                return random.nextInt(40) - 4;
            default:
                return random.nextInt(8) - 1;
        }
    }

    private void edit() {
        switch (random.nextInt(10)) {
            case 0:
                compare("pass");
                break;
            case 1:
                compare("undo");
                break;
            case 2:
                compare("restore");
                break;
            case 3:
                compare("save");
                break;
            case 4:
                compare("playOptimally", 1 + random.nextInt(3));
                break;
            case 5:
                compare("startNextRound");
                break;
            default:
                compare("burn", random.nextInt(3), random.nextBoolean());
        }
        compare("formatLog");
        compare("optimalDifference");
    }

    private void loadText(int longest) {
        String text = text(longest);
        compare("truncate", 0);
        for (int from = 0; from < text.length() && from + 20 <= 500; from += 20) {
            Object[] words = {0, 0, 0, 0, 0};
            for (int i = 0; i < 20; i++) {
                int sign = from + i < text.length() ? text.charAt(from + i) : ' ';
                words[i / 4] = (int) words[i / 4] << 8 | sign;
            }
            compare("append", words);
        }
        if (random.nextInt(4) > 0) {
            compare("truncate", Math.min(500, text.length()));
        }
        compare("load");
        compare("errorKind");
        compare("errorPosition");
    }

    private String text(int longest) {
        StringBuilder text = new StringBuilder();
        int rounds = 1 + random.nextInt(random.nextInt(8) == 0 ? 5 : 3);
        for (int i = 0; i < rounds; i++) {
            text.append("round ").append(round(longest)).append(";");
        }
        int moves = random.nextInt(3) == 0 ? 0 : random.nextInt(12);
        for (int i = 0; i < moves; i++) {
            String[] all = {"left 0;", "right 0;", "left 1;", "right 2;", "pass;", "next;"};
            String longer = text + all[random.nextInt(all.length)];
            // Mostly moves that are allowed, so that long texts are good ones.
            if (isGood(longer) || random.nextInt(40) == 0) {
                text = new StringBuilder(longer);
            }
        }
        if (random.nextInt(3) == 0) {
            int place = random.nextInt(text.length() + 1);
            int end = random.nextInt(3) == 0 ? Math.min(text.length(), place + random.nextInt(4)) : place;
            text.replace(place, end, PIECES[random.nextInt(PIECES.length)]);
        }
        return text.length() > 500 ? text.substring(0, 500) : text.toString();
    }

    private static boolean isGood(String text) {
        DominoChains trial = new DominoChains();
        Check.type(trial, 0, text);
        return text.length() < 480 && !"throws IllegalArgumentException".equals(Check.outcome(() -> trial.load()));
    }

    private String round(int longest) {
        boolean[][] used = new boolean[7][7];
        StringBuilder text = new StringBuilder();
        int chains = 1 + random.nextInt(random.nextInt(12) == 0 ? 4 : 3);
        for (int i = 0; i < chains; i++) {
            text.append(i > 0 ? ", " : "");
            int pips = random.nextInt(7);
            int length = 1 + random.nextInt(random.nextInt(12) == 0 ? 9 : longest);
            for (int tile = 0; tile < length; tile++) {
                int next = random.nextInt(7);
                for (int tries = 0; tries < 30 && used[pips][next]; tries++) {
                    next = random.nextInt(7);
                }
                if (used[pips][next] && random.nextInt(10) > 0 && tile > 0) {
                    break;
                }
                used[pips][next] = true;
                used[next][pips] = true;
                text.append(tile > 0 ? " " : "").append(pips).append(next);
                pips = next;
            }
        }
        return text.toString();
    }

    private void compare(String name, Object... arguments) {
        made++;
        done.add(name + List.of(arguments));
        Object got = answer(game, name, arguments);
        Object want = answer(reference, name, arguments);
        if (!got.equals(want)) {
            wrong = true;
            Check.same(String.join("\n", done), got, want);
        }
    }

    private static Object answer(Object object, String name, Object... arguments) {
        try {
            for (Method method : object.getClass().getDeclaredMethods()) {
                if (method.getName().equals(name) && Modifier.isPublic(method.getModifiers())) {
                    Object answer = method.invoke(object, arguments);
                    return answer == null ? "nothing" : answer;
                }
            }
            throw new AssertionError("no method " + name);
        } catch (InvocationTargetException e) {
            return "throws " + e.getCause().getClass().getName();
        } catch (IllegalAccessException e) {
            throw new AssertionError(e);
        }
    }
}
