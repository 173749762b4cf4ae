import java.util.ArrayList;
import java.util.List;
import java.util.function.Supplier;

/**
 * "A call that throws an exception changes nothing": an object that refused a call answers as one that was never
 * called so, at once and behind calls that follow.
 */
public final class RefusalTest {
    private static final Checks c = new Checks();
    // With what makes and follows the object, an object's calls stay at 512 at most.
    private static final int QUESTIONS = 350;
    // None of these is refused: such a call could do once more what the first one must not do.
    private static final String[] BUSY_THEN = {"takeOut 1", "deliver 5 2 500 150", "split 0 7", "contract 0 5 0 0 5 1 2",
        "pass 2", "reweigh 0 300", "sell 0 5 9", "silo 5", "reweigh 0 140", "pass 1"};
    private static final String[] FULL_THEN = {"takeOut 1", "pass 2", "reweigh 0 300", "sell 2 5 9", "pledge 3 1 7 0",
        "redeem 3", "pledge 4 1 7 0", "pass 1"};

    public static void main(String[] args) {
        builders();
        receiptCalls();
        reweighs();
        days();
        questions();
        whatIsFull();
        c.end();
    }

    private static void busy(String name, int... a) {
        changesNothing(Recipes::busy, 6, BUSY_THEN, name, a);
    }

    private static void full(String name, int... a) {
        changesNothing(Recipes::full, 80, FULL_THEN, name, a);
    }

    private static void builders() {
        busy("silo", 0);
        busy("silo", 1000001);
        busy("terms", -1, 1, 1);
        busy("terms", 5001, 1, 1);
        busy("terms", 1, -1, 1);
        busy("terms", 1, 1001, 1);
        busy("terms", 1, 1, -1);
        busy("terms", 1, 1, 1001);
        busy("deliver", 6, 0, 100, 100);
        busy("deliver", 0, 3, 100, 100);
        busy("deliver", 0, 0, 99, 100);
        busy("deliver", 0, 0, 100, 301);
        busy("deliver", 0, 2, 3001, 140);
        busy("contract", 6, 1, 0, 0, 1, 1, 1);
        busy("contract", 0, 6, 0, 0, 1, 1, 1);
        busy("contract", 1, 1, 0, 0, 1, 1, 1);
        busy("contract", 0, 1, 3, 0, 1, 1, 1);
        busy("contract", 0, 1, 0, 3, 1, 1, 1);
        busy("contract", 0, 1, 0, 0, 0, 1, 1);
        busy("contract", 0, 1, 0, 0, 1, 0, 1);
        busy("contract", 0, 1, 0, 0, 1, 1, 1001);
    }

    private static void receiptCalls() {
        for (int none : new int[] {-1, 5}) {
            busy("split", none, 1);
            busy("sell", none, 1, 1);
            busy("pledge", none, 1, 1, 1);
            busy("redeem", none);
            busy("takeOut", none);
        }
        busy("split", 0, 0);
        busy("split", 0, 245);
        busy("split", 2, 1);
        busy("split", 3, 1);
        busy("sell", 0, 6, 1);
        busy("sell", 0, 1, -1);
        busy("sell", 0, 0, 1);
        busy("sell", 2, 1, 1);
        busy("sell", 3, 1, 1);
        busy("pledge", 0, 6, 1, 1);
        busy("pledge", 0, 1, -1, 1);
        busy("pledge", 0, 1, 1, 101);
        busy("pledge", 0, 0, 1, 1);
        busy("pledge", 2, 1, 1, 1);
        busy("pledge", 3, 1, 1, 1);
        busy("redeem", 0);
        busy("redeem", 3);
        busy("takeOut", 2);
        busy("takeOut", 3);
    }

    private static void reweighs() {
        busy("reweigh", -1, 300);
        busy("reweigh", 2, 300);
        busy("reweigh", 0, 49);
        busy("reweigh", 0, 301);
    }

    private static void days() {
        busy("pass", 0);
        busy("pass", 31);
        busy("pass", -1);
    }

    private static void questions() {
        busy("receipt", 5, 0);
        busy("receipt", 0, 8);
        busy("delivery", 2, 0);
        busy("delivery", 0, 4);
        busy("ofContract", 2, 0);
        busy("ofContract", 0, 4);
        busy("ofSilo", 3, 0);
        busy("ofSilo", 0, 4);
        busy("contentAnew", 3);
        busy("account", 6);
        busy("owes", 6);
        busy("holds", 6, 0, 0);
        busy("holds", 0, 3, 0);
        busy("ownerOn", 5, 0);
        busy("ownerOn", 0, 2);
    }

    private static void whatIsFull() {
        full("silo", 1000);
        full("deliver", 0, 0, 100, 226);
        full("split", 0, 1);
        full("reweigh", 0, 140);
        full("contract", 0, 1, 0, 2, 1, 1, 1);
    }

    private static void changesNothing(Supplier<Grainledger> recipe, int receipts, String[] then, String name,
            int... a) {
        List<String> questions = questions(receipts);
        String what = name + java.util.Arrays.toString(a);
        for (int from = 0; from < questions.size(); from += QUESTIONS) {
            List<String> part = questions.subList(from, Math.min(from + QUESTIONS, questions.size()));
            for (String[] follows : new String[][] {{}, then}) {
                Grainledger refused = recipe.get();
                String outcome = Checks.outcome(() -> Calls.call(refused, name, a));
                c.due(what + " is refused: 1", outcome.startsWith("throws.") ? 1 : 0, 1);
                String followed = answers(recipe.get(), List.of(follows));
                c.due("what follows is refused: 0", followed.contains("throws.") ? 1 : 0, 0);
                c.due(what + " changes nothing of what follows", answers(refused, List.of(follows)), followed);
                Grainledger never = recipe.get();
                answers(never, List.of(follows));
                c.due(what + " changes nothing", answers(refused, part), answers(never, part));
            }
        }
    }

    private static String answers(Grainledger x, List<String> calls) {
        StringBuilder out = new StringBuilder();
        for (String call : calls) {
            out.append(answer(x, call));
        }
        return out.toString();
    }

    private static String answer(Grainledger x, String call) {
        String[] words = call.split(" ");
        int[] a = new int[words.length - 1];
        for (int i = 0; i < a.length; i++) {
            a[i] = Integer.parseInt(words[i + 1]);
        }
        return call + " = " + Checks.outcome(() -> Calls.call(x, words[0], a)) + "; ";
    }

    private static List<String> questions(int receipts) {
        List<String> questions = new ArrayList<>();
        questions.add("receipts");
        ask(questions, "receipt", receipts + 1, 8);
        ask(questions, "ownerOn", receipts + 1, 3);
        ask(questions, "delivery", receipts / 2 + 1, 4);
        ask(questions, "ofContract", Math.min(receipts / 2, 30) + 1, 4);
        ask(questions, "ofSilo", 7, 4);
        for (int holder = 0; holder < 6; holder++) {
            questions.add("account " + holder);
            questions.add("owes " + holder);
            for (int kind = 0; kind < 9; kind++) {
                questions.add("holds " + holder + " " + kind / 3 + " " + kind % 3);
            }
        }
        return questions;
    }

    private static void ask(List<String> questions, String name, int count, int whats) {
        for (int i = 0; i < count; i++) {
            for (int what = 0; what < whats; what++) {
                questions.add(name + " " + i + " " + what);
            }
        }
    }
}
