import java.util.ArrayList;
import java.util.List;

/** A SwungShips whose answers are noted, and whose calls are counted: an object is for 512 of them. */
public final class Watched {
    private static final Calls CALLS = new Calls(SwungShips.class);
    private static final int MOST_CALLS = 512;

    private final SwungShips ships = new SwungShips();
    private final List<Integer> answers = new ArrayList<>();
    private int calls = 0;

    public int ask(String name, int... args) {
        calls++;
        if (calls > MOST_CALLS) {
            throw new IllegalStateException("the test makes more than 512 calls on one object");
        }
        int answer = CALLS.answer(ships, name, args);
        answers.add(answer);
        return answer;
    }

    /** Calls written as 'harbour 5 4, tide 1'; none of them may be refused, the test builds on them. */
    public void run(String script) {
        for (String row : script.split(",")) {
            String[] words = row.trim().split(" +");
            int[] args = new int[words.length - 1];
            for (int i = 0; i < args.length; i++) {
                args[i] = Integer.parseInt(words[i + 1]);
            }
            if (ask(words[0], args) < -1000000000) {
                throw new IllegalStateException("refused: " + row);
            }
        }
    }

    public void forgetAnswers() {
        answers.clear();
    }

    public List<Integer> answers() {
        return answers;
    }
}
