import java.util.ArrayList;
import java.util.List;

/**
 * All that an object answers after some calls. It is asked of several objects made by the same calls, so that none is
 * used for more than 512 calls.
 */
public final class Answers {
    private static final int MOST_CALLS = 512;

    private final List<Call> questions;
    private final long[] answers;

    public Answers(List<Call> calls) {
        questions = questions(new Call("cakes").answer(made(calls)));
        answers = new long[questions.size()];
        FridgeGossip x = null;
        int left = 0;
        for (int i = 0; i < answers.length; i++) {
            if (left == 0) {
                x = made(calls);
                left = Math.max(1, MOST_CALLS - calls.size());
            }
            answers[i] = questions.get(i).answer(x);
            left--;
        }
    }

    private static FridgeGossip made(List<Call> calls) {
        FridgeGossip x = new FridgeGossip();
        for (Call call : calls) {
            call.answer(x);
        }
        return x;
    }

    /** The first question that is answered in two ways, with both answers; nothing if there is none. */
    public String differenceFrom(Answers other) {
        for (int i = 0; i < Math.min(answers.length, other.answers.length); i++) {
            if (answers[i] != other.answers[i]) {
                return questions.get(i) + " answers " + Check.text(answers[i]) + ", not "
                        + Check.text(other.answers[i]);
            }
        }
        return "";
    }

    private static List<Call> questions(long cakes) {
        List<Call> list = new ArrayList<>();
        list.add(new Call("cakes"));
        list.add(new Call("words"));
        for (int f = 0; f < 5; f++) {
            list.add(new Call("known", f));
            list.add(new Call("clock", f));
            of(list, f);
            ofCakes(list, f, (int) cakes);
        }
        for (int thing = 0; thing < 40; thing++) {
            list.add(new Call("whereByAll", thing));
            list.add(new Call("keptByAll", thing));
        }
        for (int food = 0; food < 8; food++) {
            list.add(new Call("countByAll", food));
        }
        // asks what was needed by setting it, so these come last
        for (int recipe = 0; recipe < 6; recipe++) {
            for (int food = 0; food < 8; food++) {
                list.add(new Call("setNeed", recipe, food, 0));
            }
        }
        return list;
    }

    private static void of(List<Call> list, int fridge) {
        for (int thing = 0; thing < 40; thing++) {
            list.add(new Call("where", fridge, thing));
            list.add(new Call("claims", fridge, thing));
            list.add(new Call("keptFor", fridge, thing));
        }
        for (int food = 0; food < 8; food++) {
            list.add(new Call("count", fridge, food));
            list.add(new Call("missing", fridge, food));
        }
        for (int day = 0; day < 100; day++) {
            list.add(new Call("guests", fridge, day));
        }
    }

    private static void ofCakes(List<Call> list, int fridge, int cakes) {
        for (int cake = 0; cake < cakes; cake++) {
            list.add(new Call("cake", fridge, cake));
            list.add(new Call("isUnfit", fridge, cake));
            list.add(new Call("isSpoilt", fridge, cake));
            for (int food = 0; food < 8; food++) {
                list.add(new Call("lacks", fridge, cake, food));
            }
        }
    }
}
