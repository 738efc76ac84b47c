import java.util.ArrayList;
import java.util.List;

/** Counts and prints the answers that are not the due ones. */
final class Due {
    interface Call {
        Object answer();
    }

    private static int checks = 0;
    private static int wrong = 0;

    private Due() {
    }

    static void is(String what, Object got, Object want) {
        checks++;
        if (!want.equals(got)) {
            wrong++;
            System.out.println(what + " answered " + got + ", due is " + want);
        }
    }

    static void fails(String what, Class<? extends RuntimeException> want, Call call) {
        is(what, outcome(call), "throws." + want.getSimpleName());
    }

    static Object outcome(Call call) {
        try {
            return call.answer();
        } catch (RuntimeException e) {
            return "throws." + e.getClass().getSimpleName();
        }
    }

    static void end() {
        System.out.println(checks + " checks, " + wrong + " wrong");
        if (wrong > 0 || checks == 0) {
            System.exit(1);
        }
    }

    static Object runText(TinRoofScore x, String text) {
        for (char c : text.toCharArray()) {
            x.append(c);
        }
        return outcome(x::run);
    }

    static String barLine(TinRoofScore x, int bar) {
        return written(x, x.line(bar));
    }

    static String tinLine(TinRoofScore x, int tin) {
        return written(x, x.tinLine(tin));
    }

    private static String written(TinRoofScore x, int length) {
        StringBuilder signs = new StringBuilder();
        for (int i = 0; i < length; i++) {
            signs.append(x.character(i));
        }
        fails("character behind the line", IndexOutOfBoundsException.class, () -> x.character(length));
        return signs.toString();
    }

    interface Maker {
        TinRoofScore make();
    }

    interface CallOn {
        Object answer(TinRoofScore x);
    }

    /** A call that throws, on a new object, leaves everything as a twin without that call has it. */
    static void keeps(String what, Class<? extends RuntimeException> want, Maker maker, CallOn call) {
        TinRoofScore x = maker.make();
        TinRoofScore twin = maker.make();
        fails(what, want, () -> call.answer(x));
        is(what + " keeps reason and detail", reason(x), reason(twin));
        is(what + " keeps the state", trail(x), trail(twin));
    }

    /** As above, but for the reason, which is kept for refusal. */
    static void refuses(String what, int reason, int detail, Maker maker, CallOn call) {
        TinRoofScore x = maker.make();
        fails(what, UnsupportedOperationException.class, () -> call.answer(x));
        is(what + " reason", x.refusal(false), reason);
        is(what + " detail", x.refusal(true), detail);
        is(what + " keeps the state", trail(x), trail(maker.make()));
    }

    private static List<Object> reason(TinRoofScore x) {
        return List.of(outcome(() -> x.refusal(false)), outcome(() -> x.refusal(true)));
    }

    // Ends by undo and restore, so the object is of no use afterwards; with 16 sounds these are some 450 calls.
    private static List<Object> trail(TinRoofScore x) {
        List<Object> all = new ArrayList<>(look(x));
        all.add(x.errorPosition());
        all.add(signs(x));
        for (int i = 0; i < 2; i++) {
            all.add(outcome(x::undo));
            all.addAll(look(x));
        }
        all.add(outcome(x::restore));
        all.addAll(look(x));
        return all;
    }

    /** The line that stands, whatever wrote it. */
    static String signs(TinRoofScore x) {
        StringBuilder signs = new StringBuilder();
        for (int i = 0; i < 40; i++) {
            int index = i;
            Object sign = outcome(() -> x.character(index));
            if (!(sign instanceof Character)) {
                break;
            }
            signs.append(sign);
        }
        return signs.toString();
    }

    /**
     * All that changes can change, and the accounts. What follows from these is left out, as an object
     * answers 512 calls alone.
     */
    static List<Object> look(TinRoofScore x) {
        List<Object> all = new ArrayList<>();
        for (int what = 0; what < 12; what++) {
            all.add(x.account(what));
        }
        for (int tin = 0; tin < 4; tin++) {
            all.add(x.tinOf(tin, 0));
            all.add(x.tinOf(tin, 1));
        }
        for (int sound = 0; sound < x.account(3); sound++) {
            for (int what = 0; what < 3; what++) {
                all.add(x.soundOf(sound, what));
            }
        }
        for (int bar = 0; bar < x.account(0); bar++) {
            all.add(x.barOf(bar, 0));
        }
        return all;
    }
}
