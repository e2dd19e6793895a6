import java.util.ArrayList;
import java.util.List;

/** Calls that ask change nothing, whatever they are asked with, neither now nor for the ticks to come. */
public final class AskingTest {
    private static final int[] ARGUMENTS = {-1, 0, 1, 2, 3, 4, 5, 6, 7, 100};

    private static final Due due = new Due();

    interface Question {
        Object ask(Burnerline x);
    }

    public static void main(String[] args) {
        for (int state = 0; state <= 6; state++) {
            for (int later : new int[] {0, 1, 6}) {
                simpleQuestions(state, later);
                for (int argument : ARGUMENTS) {
                    askWith(state, later, argument);
                }
            }
        }
        due.end();
    }

    private static void simpleQuestions(int state, int later) {
        List<Question> all = new ArrayList<>();
        all.add(Burnerline::ticks);
        all.add(Burnerline::state);
        all.add(Burnerline::reason);
        all.add(Burnerline::time);
        all.add(x -> x.isOpen(true));
        all.add(x -> x.isOpen(false));
        all.add(x -> x.sees(true));
        all.add(x -> x.sees(false));
        all.add(Burnerline::air);
        all.add(Burnerline::fuel);
        all.add(Burnerline::purged);
        all.add(Burnerline::unlit);
        all.add(Burnerline::longestUnlit);
        all.add(Burnerline::changes);
        all.add(Burnerline::records);
        all.add(Burnerline::toPilot);
        asked(state, later, all);
    }

    private static void askWith(int state, int later, int argument) {
        List<Question> all = new ArrayList<>();
        all.add(x -> x.tickOf(argument));
        all.add(x -> x.stateOf(argument));
        all.add(x -> x.reasonOf(argument));
        all.add(x -> x.couldBe(argument, 1));
        all.add(x -> x.couldBe(6, argument));
        all.add(x -> x.reasonsAhead(argument));
        asked(state, later, all);
    }

    /** Asks one furnace everything twice, and compares it with another that nobody asked. */
    private static void asked(int state, int later, List<Question> questions) {
        Burnerline x = furnace(state, later);
        for (Question question : questions) {
            Object first = answer(question, x);
            due.same("the answer when asked twice", answer(question, x), first);
        }
        Burnerline left = furnace(state, later);
        due.same("asking in " + state + " leaves", Due.asked(x), Due.asked(left));
        for (int poll = 1; poll <= 4; poll++) {
            x.poll(poll);
            left.poll(poll);
            due.same("poll " + poll + " behind asking in " + state, Due.asked(x), Due.asked(left));
        }
    }

    private static Burnerline furnace(int state, int later) {
        Burnerline x = Due.quickIn(state);
        x.signal(Due.PILOT_EYE, state == 3);
        Due.pass(x, later);
        return x;
    }

    private static Object answer(Question question, Burnerline x) {
        try {
            return question.ask(x);
        } catch (IllegalArgumentException | IndexOutOfBoundsException e) {
            return e.getClass();
        }
    }
}
