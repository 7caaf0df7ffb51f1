import java.util.ArrayList;
import java.util.List;
import java.util.function.Consumer;
import java.util.function.Function;
import java.util.function.Supplier;

/** All that an object answers, to see whether a call changed something. */
final class Picture {
    /** Some ask ten calls: these and 200 calls that tell something ahead, together, stay below 512. */
    private static final int QUESTIONS_OF_AN_OBJECT = 120;
    private static final List<Function<Throughcoach, Object>> QUESTIONS = questions();

    private Picture() {
    }

    /** The answers of many like objects, so that none of them is used for more than 512 calls. */
    static String of(Supplier<Throughcoach> like) {
        StringBuilder text = new StringBuilder();
        Throughcoach x = like.get();
        int asked = 0;
        for (Function<Throughcoach, Object> question : QUESTIONS) {
            if (asked == QUESTIONS_OF_AN_OBJECT) {
                x = like.get();
                asked = 0;
            }
            Throughcoach one = x;
            text.append(Check.told(() -> question.apply(one))).append(' ');
            asked++;
        }
        return text.toString();
    }

    /** Whether the call, refused or not, leaves everything as it was. */
    static boolean staysAt(String before, Supplier<Throughcoach> like, Consumer<Throughcoach> call) {
        return before.equals(of(() -> {
            Throughcoach x = like.get();
            Check.told(() -> {
                call.accept(x);
                return null;
            });
            return x;
        }));
    }

    private static List<Function<Throughcoach, Object>> questions() {
        List<Function<Throughcoach, Object>> all = new ArrayList<>();
        askOfTrains(all);
        askOfCoaches(all);
        askOfPersons(all);
        tellMore(all);
        return all;
    }

    private static void askOfTrains(List<Function<Throughcoach, Object>> all) {
        for (int i = 0; i < 36; i++) {
            int train = i / 6;
            int stop = i % 6;
            all.add(x -> x.arrives(train, stop));
            all.add(x -> x.leaves(train, stop));
            all.add(x -> x.leavesAnew(train, stop));
            all.add(x -> x.sheet(train, stop));
            all.add(x -> Scene.consist(x, train, stop));
            all.add(x -> x.owes(train, stop));
        }
        for (int i = 0; i < 6; i++) {
            int train = i;
            all.add(x -> x.best(train));
        }
        all.add(x -> x.homes());
    }

    private static void askOfCoaches(List<Function<Throughcoach, Object>> all) {
        for (int i = 0; i < 10; i++) {
            int coach = i;
            all.add(x -> Scene.coachOf(x, coach));
            for (int bed = 0; bed < 18; bed++) {
                int room = bed / 3;
                int place = bed % 3;
                all.add(x -> x.sleeper(coach, room, place));
            }
            for (int party = 0; party < 10; party++) {
                int of = party;
                all.add(x -> x.holds(coach, true, of));
                all.add(x -> x.holds(coach, false, of));
            }
        }
    }

    private static void askOfPersons(List<Function<Throughcoach, Object>> all) {
        for (int i = 0; i < 40; i++) {
            int person = i;
            all.add(x -> Scene.where(x, person) + " " + x.personOf(person, 3));
        }
        all.add(x -> x.paid());
    }

    /** What is told shows what no question asks for: patience, lateness, PARTS and how many there are. */
    private static void tellMore(List<Function<Throughcoach, Object>> all) {
        for (int i = 0; i < 6; i++) {
            int train = i;
            all.add(x -> x.patience(train, 0));
            for (int stop = 1; stop < 6; stop++) {
                int at = stop;
                all.add(x -> x.late(train, at, 0));
            }
            for (int station = 0; station < 10; station++) {
                int where = station;
                all.add(x -> x.stop(train, where, 1, 1, 0));
            }
        }
        for (int i = 0; i < 10; i++) {
            int coach = i;
            all.add(x -> x.part(coach, 0, 1));
            all.add(x -> x.book(coach, true, 30, 0));
        }
        all.add(x -> x.station(0, 0));
        all.add(x -> x.train(0, 0, 0));
        all.add(x -> x.coach(0, 0, 0, 20, 20, 63, false));
    }
}
