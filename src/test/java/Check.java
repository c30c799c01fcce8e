/** What every test needs: comparing answers, expecting exceptions, and loading texts. */
final class Check {
    interface Call {
        Object answer();
    }

    private static int wrong = 0;

    private Check() {
    }

    static void same(String what, Object got, Object want) {
        if (!want.equals(got)) {
            wrong++;
            System.out.println(what + ": got " + got + ", want " + want);
        }
    }

    static void fails(String what, Class<? extends RuntimeException> want, Call call) {
        same(what, outcome(call), "throws " + want.getSimpleName());
    }

    static void noIndex(String what, Call call) {
        fails(what, IndexOutOfBoundsException.class, call);
    }

    static void noState(String what, Call call) {
        fails(what, IllegalStateException.class, call);
    }

    static void noArgument(String what, Call call) {
        fails(what, IllegalArgumentException.class, call);
    }

    static Object outcome(Call call) {
        try {
            return call.answer();
        } catch (RuntimeException e) {
            return "throws " + e.getClass().getSimpleName();
        }
    }

    static void end() {
        if (wrong > 0) {
            System.out.println(wrong + " wrong");
            System.exit(1);
        }
    }

    /** Puts the text behind what the input buffer holds, whose length the caller tells. */
    static void type(DominoChains game, int held, String text) {
        for (int from = 0; from < text.length(); from += 20) {
            int[] words = new int[5];
            for (int i = 0; i < 20; i++) {
                int sign = from + i < text.length() ? text.charAt(from + i) : ' ';
                words[i / 4] = words[i / 4] << 8 | sign;
            }
            game.append(words[0], words[1], words[2], words[3], words[4]);
        }
        game.truncate(held + text.length());
    }

    static DominoChains game(String text) {
        DominoChains game = new DominoChains();
        type(game, 0, text);
        game.load();
        return game;
    }

    static String formatted(DominoChains game, int length) {
        StringBuilder text = new StringBuilder();
        for (int i = 0; i < length; i++) {
            text.append(game.formattedCharacter(i));
        }
        noIndex("character behind the text", () -> game.formattedCharacter(length));
        return text.toString();
    }
}
