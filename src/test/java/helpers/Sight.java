import java.util.ArrayList;
import java.util.List;
import java.util.function.ToIntFunction;

/** All that the calls which show the state can show of a counter, as a row of questions. */
public final class Sight {
    private record Question(String name, ToIntFunction<LuggageCounter> asked) {
    }

    private final List<Question> questions = new ArrayList<>();

    /** Questions about a counter with so many shelves, things and claims, and about one more of each. */
    public Sight(int shelves, int things, int claims) {
        for (int what = 0; what <= 10; what++) {
            int w = what;
            add("count(" + w + ")", x -> x.count(w));
        }
        add("misfit()", x -> x.misfit());
        add("least()", x -> x.least());
        for (int shelf = 0; shelf <= shelves; shelf++) {
            addShelf(shelf);
        }
        for (int thing = 0; thing <= things; thing++) {
            addThing(thing);
        }
        for (int claim = 0; claim <= claims; claim++) {
            addClaim(claim);
        }
    }

    private void add(String name, ToIntFunction<LuggageCounter> asked) {
        questions.add(new Question(name, asked));
    }

    private void addShelf(int shelf) {
        for (int what = 0; what <= 6; what++) {
            int w = what;
            add("shelfOf(" + shelf + ", " + w + ")", x -> x.shelfOf(shelf, w));
        }
    }

    private void addThing(int thing) {
        for (int what = 0; what <= 12; what++) {
            int w = what;
            add("thing(" + thing + ", " + w + ")", x -> x.thing(thing, w));
        }
        int ticket = Tickets.of(thing);
        add("fee(" + ticket + ")", x -> x.fee(ticket));
    }

    private void addClaim(int claim) {
        int[] whats = {0, 1, 2, 10, 11, 12, 13};
        for (int what : whats) {
            add("claimOf(" + claim + ", " + what + ")", x -> x.claimOf(claim, what));
        }
        add("means(" + claim + ")", x -> x.means(claim));
        add("ask(" + claim + ")", x -> x.ask(claim));
    }

    public int size() {
        return questions.size();
    }

    public String name(int question) {
        return questions.get(question).name;
    }

    public int answer(int question, LuggageCounter x) {
        return questions.get(question).asked.applyAsInt(x);
    }
}
