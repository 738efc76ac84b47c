import java.util.ArrayList;
import java.util.List;

/** Counts and prints the answers that are not the due ones. */
final class Due {
    interface Call {
        Object answer();
    }

    private static int checks = 0;
    private static int wrong = 0;

    private Due() {
    }

    static void is(String what, Object got, Object want) {
        checks++;
        if (!want.equals(got)) {
            wrong++;
            System.out.println(what + " answered " + got + ", due is " + want);
        }
    }

    static void fails(String what, Class<? extends RuntimeException> want, Call call) {
        is(what, outcome(call), "throws." + want.getSimpleName());
    }

    static Object outcome(Call call) {
        try {
            return call.answer();
        } catch (RuntimeException e) {
            return "throws." + e.getClass().getSimpleName();
        }
    }

    static void end() {
        System.out.println(checks + " checks, " + wrong + " wrong");
        if (wrong > 0 || checks == 0) {
            System.exit(1);
        }
    }

    static Object runText(TinRoofScore x, String text) {
        for (char c : text.toCharArray()) {
            x.append(c);
        }
        return outcome(x::run);
    }

    static String barLine(TinRoofScore x, int bar) {
        return written(x, x.line(bar));
    }

    static String tinLine(TinRoofScore x, int tin) {
        return written(x, x.tinLine(tin));
    }

    private static String written(TinRoofScore x, int length) {
        StringBuilder signs = new StringBuilder();
        for (int i = 0; i < length; i++) {
            signs.append(x.character(i));
        }
        fails("character behind the line", IndexOutOfBoundsException.class, () -> x.character(length));
        return signs.toString();
    }

    /** Everything that a call that throws must leave as it is, but for what the document excepts. */
    static List<Object> look(TinRoofScore x) {
        List<Object> all = new ArrayList<>();
        for (int what = 0; what < 12; what++) {
            all.add(x.account(what));
        }
        for (int tin = 0; tin < 4; tin++) {
            for (int what = 0; what < 5; what++) {
                all.add(x.tinOf(tin, what));
            }
        }
        for (int sound = 0; sound < x.account(3); sound++) {
            for (int what = 0; what < 7; what++) {
                all.add(x.soundOf(sound, what));
            }
        }
        for (int bar = 0; bar < x.account(0); bar++) {
            for (int what = 0; what < 5; what++) {
                all.add(x.barOf(bar, what));
            }
        }
        return all;
    }
}
