import java.util.List;

/**
 * The machine never throws in the program, whatever is asked of it: what comes out is thrown by the
 * program's own lines, is named by the call's throws clause, and leaves all as it was.
 */
public final class MachineTest {
    private static final Checks c = new Checks();

    public static void main(String[] args) {
        for (int run = 0; run < 300; run++) {
            wildRun(run, 512, true);
        }
        for (int run = 300; run < 320; run++) {
            wildRun(run, 20000, false);
        }
        manyHoldersBeyondTheLastCall();
        c.end();
    }

    private static void wildRun(int run, int calls, boolean looksAtAll) {
        Calls.Dice dice = new Calls.Dice(run);
        Grainledger x = new Grainledger();
        for (int i = 0; i < calls; i++) {
            int which = dice.below(Calls.NAMES.length);
            String name = Calls.NAMES[which];
            int[] a = new int[Calls.ARGUMENTS[which]];
            for (int k = 0; k < a.length; k++) {
                a[k] = argument(dice);
            }
            wildCall(x, name, a, looksAtAll && dice.below(4) == 0);
        }
    }

    private static int argument(Calls.Dice dice) {
        switch (dice.below(8)) {
            case 0: return dice.oneOf(Integer.MIN_VALUE, Integer.MAX_VALUE, -1, 1000000, 100000, 40000);
            case 1: return dice.from(0, 300);
            case 2: return dice.from(0, 100);
            default: return dice.below(4);
        }
    }

    private static void wildCall(Grainledger x, String name, int[] a, boolean looksAtAll) {
        String before = looksAtAll ? Calls.all(x) : "";
        try {
            Calls.call(x, name, a);
        } catch (RuntimeException e) {
            String what = name + java.util.Arrays.toString(a) + " " + e;
            c.due(what + " is named: 1", named(name).contains(e.getClass().getName()) ? 1 : 0, 1);
            c.due(what + " is thrown by", e.getStackTrace()[0].getClassName(), "Grainledger");
            if (looksAtAll) {
                c.due(what + " leaves", Calls.all(x), before);
            }
        }
    }

    private static List<String> named(String name) {
        for (java.lang.reflect.Method method : Grainledger.class.getMethods()) {
            if (method.getName().equals(name)) {
                return java.util.Arrays.stream(method.getExceptionTypes()).map(Class::getName).toList();
            }
        }
        return List.of();
    }

    private static void manyHoldersBeyondTheLastCall() {
        Grainledger x = new Grainledger();
        x.silo(1000);
        x.deliver(0, 0, 1000, 140);
        for (int i = 1; i < 6000; i++) {
            int day = i;
            c.due("the machine throws", isByTheMachine(() -> x.sell(0, day % 6, 0)) ? 1 : 0, 0);
            c.due("the machine throws", isByTheMachine(() -> x.pass(1)) ? 1 : 0, 0);
            c.due("the machine throws", isByTheMachine(() -> x.ownerOn(0, day / 2)) ? 1 : 0, 0);
        }
    }

    private static boolean isByTheMachine(Checks.Call call) {
        return Checks.outcome(call).contains("machine");
    }
}
