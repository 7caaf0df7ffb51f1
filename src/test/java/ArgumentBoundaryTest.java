import java.util.Arrays;
import java.util.function.Supplier;

/** Every argument of every call: too small, too large, just right; and which exception is thrown of several. */
public final class ArgumentBoundaryTest {
    private static final Check CHECK = new Check("ArgumentBoundaryTest");
    private static final boolean INDEX = true, ARGUMENT = false;

    interface Face {
        Object call(Throughcoach x, int[] arguments);
    }

    /** An argument from low to high; outside there is no such thing, or it is out of range. */
    private record Argument(String name, boolean isIndex, int low, int high) {
        String thrown() {
            return isIndex ? "throws.IndexOutOfBoundsException" : "throws.IllegalArgumentException";
        }

        int[] outside() {
            return new int[] {low - 1, high + 1, Integer.MIN_VALUE, Integer.MAX_VALUE};
        }
    }

    private static Argument argument(String name, boolean isIndex, int low, int high) {
        return new Argument(name, isIndex, low, high);
    }

    /** Five STATIONS, three TRAINS that have only the STOP 0, at the STATION 2. */
    private static Throughcoach begun() {
        Throughcoach x = Scene.stations(5);
        for (int i = 0; i < 3; i++) {
            x.train(2, 100 + i, 500);
            x.patience(i, i + 1);
        }
        return x;
    }

    /** Those TRAINS go to the STATIONS 0 and 4; three COACHES at the STATION 2, without PARTS; four PERSONS. */
    private static Throughcoach told() {
        Throughcoach x = begun();
        for (int i = 0; i < 3; i++) {
            x.stop(i, 0, 20, 30, 0);
            x.stop(i, 4, 20, 30, 5);
            x.late(i, 1, i + 5);
            x.coach(2, i, i, 30, 30, 63, true);
        }
        x.book(0, true, 30, 1);
        x.book(0, true, 70, 2);
        x.book(1, false, 30, 1);
        x.book(2, false, 70, 2);
        return x;
    }

    /** All that is limited is told as often as may be: nothing further can be told. */
    private static Throughcoach full() {
        Throughcoach x = Scene.stations(10);
        for (int i = 0; i < 6; i++) {
            Scene.train(x, 100 + i, 2, 0, 4, 5, 6, 7);
        }
        for (int i = 0; i < 10; i++) {
            Scene.coach(x, 2, 0, 0);
            if (i > 0) {
                x.takeOut(i);
            }
        }
        for (int i = 0; i < 18; i++) {
            x.book(0, true, 30, 1);
        }
        for (int i = 0; i < 18; i++) {
            x.leave(i);
        }
        for (int i = 0; i < 18; i++) {
            x.book(0, true, 30, 1);
        }
        for (int i = 18; i < 36; i++) {
            x.leave(i);
        }
        for (int i = 0; i < 4; i++) {
            x.book(0, true, 30, 1);
            x.leave(36 + i);
        }
        x.takeOut(0);
        return x;
    }

    private static void bounds(String call, Supplier<Throughcoach> scene, Face face, Argument... arguments) {
        String before = Picture.of(scene);
        for (int i = 0; i < arguments.length; i++) {
            for (int value : arguments[i].outside()) {
                int[] wrong = right(arguments);
                wrong[i] = value;
                refused(call, scene, before, face, wrong, arguments[i].thrown());
            }
            for (int value : new int[] {arguments[i].low(), arguments[i].high()}) {
                int[] edge = right(arguments);
                edge[i] = value;
                accepted(call, scene, face, edge);
            }
        }
        firstListed(call, scene, before, face, arguments);
    }

    /** All arguments at their lowest. */
    private static int[] right(Argument... arguments) {
        int[] right = new int[arguments.length];
        for (int i = 0; i < right.length; i++) {
            right[i] = arguments[i].low();
        }
        return right;
    }

    private static void refused(String call, Supplier<Throughcoach> scene, String before, Face face, int[] wrong,
            String thrown) {
        String what = call + Arrays.toString(wrong);
        Throughcoach x = scene.get();
        CHECK.due(what, thrown, () -> face.call(x, wrong));
        CHECK.due(what + " changes nothing", true, () -> Picture.staysAt(before, scene, y -> face.call(y, wrong)));
    }

    private static void accepted(String call, Supplier<Throughcoach> scene, Face face, int[] edge) {
        Throughcoach x = scene.get();
        CHECK.due(call + Arrays.toString(edge) + " is not refused", false,
                () -> Check.told(() -> face.call(x, edge)).startsWith("throws."));
    }

    /** Of two wrong arguments the one without such a thing counts, whichever stands ahead. */
    private static void firstListed(String call, Supplier<Throughcoach> scene, String before, Face face,
            Argument... arguments) {
        for (int i = 0; i < arguments.length; i++) {
            for (int j = 0; j < arguments.length; j++) {
                if (arguments[i].isIndex() && i != j) {
                    int[] wrong = right(arguments);
                    wrong[i] = arguments[i].high() + 1;
                    wrong[j] = arguments[j].low() - 1;
                    refused(call, scene, before, face, wrong, arguments[i].thrown());
                }
            }
        }
    }

    /** What is thrown where the state alone would refuse the call, too. */
    private static void aheadOfTheState(String call, Face face, int[] right, Argument... arguments) {
        Supplier<Throughcoach> scene = ArgumentBoundaryTest::full;
        String before = Picture.of(scene);
        refused(call + " by the state", scene, before, face, right, "throws.IllegalStateException");
        for (int i = 0; i < arguments.length; i++) {
            int[] wrong = right.clone();
            wrong[i] = arguments[i].high() + 1;
            refused(call + " ahead of the state", scene, before, face, wrong, arguments[i].thrown());
        }
    }

    private static void promises2To4() {
        Face station = (x, a) -> x.station(a[0], a[1]);
        bounds("2: station", ArgumentBoundaryTest::told, station,
                argument("land", ARGUMENT, 0, 5), argument("gauge", ARGUMENT, 0, 1));
        aheadOfTheState("2: station", station, new int[] {0, 0},
                argument("land", ARGUMENT, 0, 5), argument("gauge", ARGUMENT, 0, 1));
        Face train = (x, a) -> x.train(a[0], a[1], a[2]);
        bounds("3: train", ArgumentBoundaryTest::told, train, argument("station", INDEX, 0, 4),
                argument("departure", ARGUMENT, 0, 1439), argument("pulls", ARGUMENT, 0, 1000));
        aheadOfTheState("3: train", train, new int[] {0, 0, 0}, argument("station", INDEX, 0, 9),
                argument("departure", ARGUMENT, 0, 1439), argument("pulls", ARGUMENT, 0, 1000));
        Face stop = (x, a) -> x.stop(a[0], a[1], a[2], a[3], a[4]);
        bounds("4: stop", ArgumentBoundaryTest::begun, stop, argument("train", INDEX, 0, 2),
                argument("station", INDEX, 0, 4), argument("run", ARGUMENT, 1, 300),
                argument("kilometres", ARGUMENT, 1, 500), argument("stay", ARGUMENT, 0, 60));
        aheadOfTheState("4: stop", stop, new int[] {5, 9, 1, 1, 0}, argument("train", INDEX, 0, 5),
                argument("station", INDEX, 0, 9), argument("run", ARGUMENT, 1, 300),
                argument("kilometres", ARGUMENT, 1, 500), argument("stay", ARGUMENT, 0, 60));
    }

    private static void promises5To9() {
        bounds("5: patience", ArgumentBoundaryTest::told, (x, a) -> x.patience(a[0], a[1]),
                argument("train", INDEX, 0, 2), argument("minutes", ARGUMENT, 0, 180));
        bounds("6: late", ArgumentBoundaryTest::told, (x, a) -> x.late(a[0], a[1], a[2]),
                argument("train", INDEX, 0, 2), argument("stop", INDEX, 1, 2), argument("minutes", ARGUMENT, 0, 300));
        Argument[] ofACoach = {argument("station", INDEX, 0, 4), argument("land", ARGUMENT, 0, 5),
            argument("kind", ARGUMENT, 0, 2), argument("weight", ARGUMENT, 20, 60),
            argument("brake", ARGUMENT, 0, 80), argument("lands", ARGUMENT, 0, 63)};
        Face fixed = (x, a) -> x.coach(a[0], a[1], a[2], a[3], a[4], a[5], false);
        Face sliding = (x, a) -> x.coach(a[0], a[1], a[2], a[3], a[4], a[5], true);
        bounds("7: coach", ArgumentBoundaryTest::told, fixed, ofACoach);
        bounds("7: coach that slides", ArgumentBoundaryTest::told, sliding, ofACoach);
        ofACoach[0] = argument("station", INDEX, 0, 9);
        aheadOfTheState("7: coach", fixed, new int[] {0, 0, 0, 20, 0, 0}, ofACoach);
        Face part = (x, a) -> x.part(a[0], a[1], a[2]);
        bounds("8: part", ArgumentBoundaryTest::told, part, argument("coach", INDEX, 0, 2),
                argument("train", INDEX, 0, 2), argument("to", INDEX, 0, 4));
        aheadOfTheState("8: part", part, new int[] {9, 5, 9}, argument("coach", INDEX, 0, 9),
                argument("train", INDEX, 0, 5), argument("to", INDEX, 0, 9));
        Face takeOut = (x, a) -> x.takeOut(a[0]);
        bounds("9: takeOut", ArgumentBoundaryTest::told, takeOut, argument("coach", INDEX, 0, 2));
        aheadOfTheState("9: takeOut", takeOut, new int[] {0}, argument("coach", INDEX, 0, 9));
    }

    private static void promises10To12() {
        Argument[] ofAPerson = {argument("coach", INDEX, 0, 2), argument("age", ARGUMENT, 0, 99),
            argument("party", ARGUMENT, 0, 9)};
        Face woman = (x, a) -> x.book(a[0], true, a[1], a[2]);
        Face man = (x, a) -> x.book(a[0], false, a[1], a[2]);
        bounds("10: book a woman", ArgumentBoundaryTest::told, woman, ofAPerson);
        bounds("10: book a man", ArgumentBoundaryTest::told, man, ofAPerson);
        ofAPerson[0] = argument("coach", INDEX, 0, 9);
        aheadOfTheState("10: book", woman, new int[] {0, 30, 1}, ofAPerson);
        Face leave = (x, a) -> x.leave(a[0]);
        bounds("11: leave", ArgumentBoundaryTest::told, leave, argument("person", INDEX, 0, 3));
        aheadOfTheState("11: leave", leave, new int[] {39}, argument("person", INDEX, 0, 39));
        swapBounds();
    }

    /** The PERSON 0 changes with the PERSON 3, so that both bounds are met, and both are never the same. */
    private static void swapBounds() {
        Face swap = (x, a) -> {
            x.swap(a[0], a[1]);
            return null;
        };
        String before = Picture.of(ArgumentBoundaryTest::told);
        for (int wrong : argument("person", INDEX, 0, 3).outside()) {
            for (int other : new int[] {0, 3, wrong, 4}) {
                refused("12: swap", ArgumentBoundaryTest::told, before, swap, new int[] {wrong, other},
                        "throws.IndexOutOfBoundsException");
                refused("12: swap", ArgumentBoundaryTest::told, before, swap, new int[] {other, wrong},
                        "throws.IndexOutOfBoundsException");
            }
        }
        for (int both = 0; both < 4; both++) {
            refused("12: swap", ArgumentBoundaryTest::told, before, swap, new int[] {both, both},
                    "throws.IllegalArgumentException");
        }
        Supplier<Throughcoach> free = () -> {
            Throughcoach x = told();
            x.leave(1);
            return x;
        };
        accepted("12: swap", free, swap, new int[] {0, 3});
        accepted("12: swap", free, swap, new int[] {3, 0});
        String full = Picture.of(ArgumentBoundaryTest::full);
        refused("12: swap by the state", ArgumentBoundaryTest::full, full, swap, new int[] {0, 39},
                "throws.IllegalStateException");
        refused("12: swap ahead of the state", ArgumentBoundaryTest::full, full, swap, new int[] {39, 39},
                "throws.IllegalArgumentException");
        refused("12: swap ahead of the state", ArgumentBoundaryTest::full, full, swap, new int[] {0, 40},
                "throws.IndexOutOfBoundsException");
    }

    private static void promises13To21() {
        Argument train = argument("train", INDEX, 0, 2);
        Argument stop = argument("stop", INDEX, 0, 2);
        bounds("13: arrives", ArgumentBoundaryTest::told, (x, a) -> x.arrives(a[0], a[1]), train, stop);
        bounds("14: leaves", ArgumentBoundaryTest::told, (x, a) -> x.leaves(a[0], a[1]), train, stop);
        bounds("15: leavesAnew", ArgumentBoundaryTest::told, (x, a) -> x.leavesAnew(a[0], a[1]), train, stop);
        bounds("16: behind", ArgumentBoundaryTest::told, (x, a) -> x.behind(a[0], a[1], a[2]), train, stop,
                argument("place", ARGUMENT, 0, 9));
        bounds("17: sheet", ArgumentBoundaryTest::told, (x, a) -> x.sheet(a[0], a[1]), train, stop);
        bounds("18: coachOf", ArgumentBoundaryTest::told, (x, a) -> x.coachOf(a[0], a[1]),
                argument("coach", INDEX, 0, 2), argument("what", ARGUMENT, 0, 5));
        bounds("19: owes", ArgumentBoundaryTest::told, (x, a) -> x.owes(a[0], a[1]),
                argument("land", ARGUMENT, 0, 5), argument("other", ARGUMENT, 0, 5));
        bounds("21: best", ArgumentBoundaryTest::told, (x, a) -> x.best(a[0]), train);
    }

    private static void promises22To24() {
        bounds("22: personOf", ArgumentBoundaryTest::told, (x, a) -> x.personOf(a[0], a[1]),
                argument("person", INDEX, 0, 3), argument("what", ARGUMENT, 0, 3));
        bounds("23: sleeper", ArgumentBoundaryTest::told, (x, a) -> x.sleeper(a[0], a[1], a[2]),
                argument("coach", INDEX, 0, 2), argument("room", ARGUMENT, 0, 5), argument("bed", ARGUMENT, 0, 2));
        bounds("24: holds a woman", ArgumentBoundaryTest::told, (x, a) -> x.holds(a[0], true, a[1]),
                argument("coach", INDEX, 0, 2), argument("party", ARGUMENT, 0, 9));
        bounds("24: holds a man", ArgumentBoundaryTest::told, (x, a) -> x.holds(a[0], false, a[1]),
                argument("coach", INDEX, 0, 2), argument("party", ARGUMENT, 0, 9));
    }

    /** A new object has no STATION, TRAIN, STOP, COACH and PERSON. */
    private static void nothingIsTold() {
        Supplier<Throughcoach> empty = Throughcoach::new;
        String before = Picture.of(empty);
        Face[] calls = {
            (x, a) -> x.train(0, 0, 0), (x, a) -> x.stop(0, 0, 1, 1, 0), (x, a) -> x.patience(0, 0),
            (x, a) -> x.late(0, 1, 0), (x, a) -> x.coach(0, 0, 0, 20, 0, 0, false), (x, a) -> x.part(0, 0, 0),
            (x, a) -> x.takeOut(0), (x, a) -> x.book(0, true, 0, 0), (x, a) -> x.leave(0),
            (x, a) -> {
                x.swap(0, 1);
                return null;
            },
            (x, a) -> x.arrives(0, 0), (x, a) -> x.leaves(0, 0), (x, a) -> x.leavesAnew(0, 0),
            (x, a) -> x.behind(0, 0, 0), (x, a) -> x.sheet(0, 0), (x, a) -> x.coachOf(0, 0), (x, a) -> x.best(0),
            (x, a) -> x.personOf(0, 0), (x, a) -> x.sleeper(0, 0, 0), (x, a) -> x.holds(0, true, 0),
        };
        for (int i = 0; i < calls.length; i++) {
            refused("1: of a new object, the call " + i, empty, before, calls[i], new int[0],
                    "throws.IndexOutOfBoundsException");
        }
        CHECK.due("1: homes", 0, () -> new Throughcoach().homes());
        CHECK.due("1: paid", 0, () -> new Throughcoach().paid());
        for (int i = 0; i < 36; i++) {
            int land = i / 6;
            int other = i % 6;
            CHECK.due("1: owes", 0, () -> new Throughcoach().owes(land, other));
        }
    }

    public static void main(String[] args) {
        nothingIsTold();
        promises2To4();
        promises5To9();
        promises10To12();
        promises13To21();
        promises22To24();
        CHECK.end();
    }
}
