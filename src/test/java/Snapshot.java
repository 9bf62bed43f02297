import java.util.ArrayList;
import java.util.List;
import java.util.function.ToIntFunction;

/**
 * All that can be asked of a hall, one answer behind the other. The document promises nothing
 * behind the 512th call, so the hall is made anew, by its recipe, for each part of the questions.
 */
final class Snapshot {
    private static final int QUESTIONS_A_HALL = 250;

    interface Recipe {
        BagHall make();
    }

    private final List<ToIntFunction<BagHall>> questions = new ArrayList<>();

    private Snapshot(Recipe recipe) {
        BagHall sample = recipe.make();
        int points = sample.count(9);
        int belts = sample.count(10);
        int flights = sample.count(11);
        int bags = sample.count(8);
        for (int what = 0; what <= 13; what++) {
            int asked = what;
            questions.add(x -> x.count(asked));
        }
        for (int p = 0; p <= points; p++) {
            askPoint(p, points, flights, sample.list(Math.min(p, 11), -1));
        }
        for (int b = 0; b <= belts; b++) {
            askBelt(b);
        }
        for (int f = 0; f <= flights; f++) {
            askFlight(f);
        }
        for (int bag = 0; bag <= bags; bag++) {
            askBag(bag, sample.steps(bag));
        }
        for (int b = 0; b < belts; b++) {
            askByChanging(b);
        }
        questions.add(BagHall::back);
    }

    static String of(Recipe recipe) {
        Snapshot snapshot = new Snapshot(recipe);
        StringBuilder told = new StringBuilder();
        BagHall x = null;
        for (int i = 0; i < snapshot.questions.size(); i++) {
            if (i % QUESTIONS_A_HALL == 0) {
                x = recipe.make();
            }
            told.append(' ').append(snapshot.questions.get(i).applyAsInt(x));
        }
        return told.toString();
    }

    private void askPoint(int p, int points, int flights, int size) {
        questions.add(x -> x.holds(p));
        for (int i = -1; i <= size; i++) {
            int asked = i;
            questions.add(x -> x.list(p, asked));
        }
        for (int kind = 0; kind <= 5; kind++) {
            int asked = kind;
            questions.add(x -> x.as(p, asked));
        }
        for (int q = 0; q < points; q++) {
            int asked = q;
            questions.add(x -> x.far(p, asked));
        }
        for (int f = 0; f < flights; f++) {
            int asked = f;
            questions.add(x -> x.route(p, asked));
        }
    }

    private void askBelt(int b) {
        for (int cell = 0; cell <= 12; cell++) {
            int asked = cell;
            questions.add(x -> x.cell(b, asked));
        }
    }

    /** TURNS and FALLEN are told only by the acts that change them, so they are asked behind the rest. */
    private void askByChanging(int b) {
        questions.add(x -> x.turns(b, 1));
        questions.add(x -> x.fall(b, false));
    }

    private void askFlight(int f) {
        for (int what = 0; what <= 6; what++) {
            int asked = what;
            questions.add(x -> x.flown(f, asked));
        }
    }

    private void askBag(int bag, int steps) {
        questions.add(x -> x.where(bag));
        questions.add(x -> x.place(bag));
        questions.add(x -> x.detail(bag));
        questions.add(x -> x.steps(bag));
        for (int i = 0; i <= steps; i++) {
            int asked = i;
            questions.add(x -> x.step(bag, asked, true));
            questions.add(x -> x.step(bag, asked, false));
        }
    }
}
