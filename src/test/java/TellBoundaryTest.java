import java.util.function.Consumer;
import java.util.function.Supplier;

/** The boundary cases of what is told, sentence by sentence: the terms, and promises 1 to 9 but takeOut's PERSONS. */
public final class TellBoundaryTest {
    private static final Check CHECK = new Check("TellBoundaryTest");

    /** The call is refused by the state, and changes nothing. */
    private static void refused(String what, Supplier<Throughcoach> scene, Consumer<Throughcoach> call) {
        Throughcoach x = scene.get();
        CHECK.state(what, () -> {
            call.accept(x);
            return null;
        });
        CHECK.due(what + ", and it changes nothing", true, () -> Picture.staysAt(Picture.of(scene), scene, call));
    }

    // "An object is used for at most 512 calls after it has been made"
    private static void theLastCall() {
        Throughcoach x = Scene.stations(2);
        Scene.train(x, 100, 0, 1);
        Scene.coach(x, 0, 0, 1);
        int calls = 6;
        while (calls < 508) {
            x.late(0, 1, calls % 300);
            x.arrives(0, 1);
            calls += 2;
        }
        CHECK.due("the call 509", 206, () -> x.late(0, 1, 7));
        CHECK.due("the call 510", 117, () -> x.arrives(0, 1));
        CHECK.due("the call 511", 1, x::homes);
        CHECK.due("the call 512", 0, () -> x.takeOut(0));
    }

    // "The constants: NONE = -1: There is none. SEATS = 0, BEDS = 1, ROOMS = 2"
    private static void constants() {
        CHECK.due("NONE", -1, () -> Throughcoach.NONE);
        CHECK.due("SEATS", 0, () -> Throughcoach.SEATS);
        CHECK.due("BEDS", 1, () -> Throughcoach.BEDS);
        CHECK.due("ROOMS", 2, () -> Throughcoach.ROOMS);
    }

    // "STATIONS are numbered from 0, at most 10"
    private static void tenStations() {
        for (int count = 0; count < 10; count++) {
            Throughcoach x = Scene.stations(count);
            int number = count;
            CHECK.due("2: the number behind " + count, number, () -> x.station(5, 1));
        }
        refused("2: if there are 10", () -> Scene.stations(10), x -> x.station(0, 0));
        refused("2: if there are 10, a like one", () -> Scene.stations(10), x -> x.station(3, 0));
    }

    // "each is in a land, 0 to 5, and has a gauge, 0 or 1": two may be alike
    private static void likeStations() {
        Throughcoach x = new Throughcoach();
        CHECK.due("2: one", 0, () -> x.station(5, 1));
        CHECK.due("2: one like it", 1, () -> x.station(5, 1));
    }

    // "TRAINS are numbered from 0, at most 6"
    private static void sixTrains() {
        Supplier<Throughcoach> six = () -> {
            Throughcoach x = Scene.stations(2);
            for (int i = 0; i < 6; i++) {
                Scene.train(x, 100, 0, 1);
            }
            return x;
        };
        Throughcoach x = Scene.stations(1);
        for (int i = 0; i < 6; i++) {
            int number = i;
            CHECK.due("3: the number behind " + number, number, () -> x.train(0, 1439, 1000));
        }
        refused("3: if there are 6", six, y -> y.train(0, 0, 0));
        refused("3: if there are 6, from elsewhere", six, y -> y.train(1, 1439, 1000));
    }

    // "the STOP 0 is told with the TRAIN"
    private static void theStopZero() {
        Throughcoach x = Scene.stations(2);
        x.train(1, 100, 0);
        CHECK.due("3: it has the STOP 0", 0, () -> x.arrives(0, 0));
        CHECK.index("3: it has no STOP 1 yet", () -> x.arrives(0, 1));
        CHECK.state("3: the STOP 0 is where it begins", () -> x.stop(0, 1, 1, 1, 0));
        CHECK.due("3: and nowhere else", 1, () -> x.stop(0, 0, 1, 1, 0));
    }

    private static Throughcoach stops(int count) {
        Throughcoach x = Scene.stations(10);
        x.train(0, 100, 1000);
        for (int i = 1; i < count; i++) {
            x.stop(0, i, 10, 10, 0);
        }
        x.train(9, 100, 1000);
        return x;
    }

    // "STOPS, numbered from 0, at most 6"
    private static void sixStops() {
        for (int count = 1; count < 6; count++) {
            Throughcoach x = stops(count);
            int number = count;
            CHECK.due("4: the number behind " + number, number, () -> x.stop(0, 8, 300, 500, 60));
        }
        refused("4: or 6", () -> stops(6), x -> x.stop(0, 8, 1, 1, 0));
        refused("4: or 6, and one there", () -> stops(6), x -> x.stop(0, 5, 1, 1, 0));
        Throughcoach x = stops(6);
        CHECK.due("4: another TRAIN may have further ones", 1, () -> x.stop(1, 8, 1, 1, 0));
    }

    // "at unlike STATIONS"
    private static void unlikeStations() {
        refused("4: where it begins", () -> stops(1), x -> x.stop(0, 0, 1, 1, 0));
        refused("4: where it stopped ahead", () -> stops(3), x -> x.stop(0, 1, 1, 1, 0));
        refused("4: where it stops last", () -> stops(3), x -> x.stop(0, 2, 1, 1, 0));
        Throughcoach x = stops(3);
        CHECK.due("4: where only another TRAIN stops", 3, () -> x.stop(0, 9, 1, 1, 0));
    }

    // "The planned arrival at a further STOP is the planned departure from the one ahead of it, and the run, together;
    // its planned departure that, and the stay, together."
    private static void plannedMinutes() {
        Throughcoach x = Scene.stations(4);
        x.train(0, 0, 0);
        x.stop(0, 1, 300, 1, 60);
        x.stop(0, 2, 1, 1, 0);
        x.stop(0, 3, 1, 1, 0);
        CHECK.due("4: the longest run", 300, () -> x.arrives(0, 1));
        CHECK.due("4: the longest stay", 360, () -> x.leaves(0, 1));
        CHECK.due("4: the shortest run", 361, () -> x.arrives(0, 2));
        CHECK.due("4: no stay", 361, () -> x.leaves(0, 2));
    }

    // "a patience in minutes, 0 at first"; "Returns the one before."
    private static void patienceBefore() {
        Throughcoach x = Scene.stations(1);
        x.train(0, 0, 0);
        x.train(0, 0, 0);
        CHECK.due("5: 0 at first", 0, () -> x.patience(0, 180));
        CHECK.due("5: the largest", 180, () -> x.patience(0, 180));
        CHECK.due("5: the same again", 180, () -> x.patience(0, 0));
        CHECK.due("5: the smallest", 0, () -> x.patience(0, 1));
        CHECK.due("5: of another TRAIN", 0, () -> x.patience(1, 1));
    }

    // "A TRAIN may be late on the run to a STOP by minutes, 0 at first."; "Returns how late it was."
    private static void lateBefore() {
        Throughcoach x = Scene.stations(3);
        Scene.train(x, 100, 0, 1, 2);
        Scene.train(x, 100, 0, 1, 2);
        CHECK.due("6: 0 at first", 0, () -> x.late(0, 1, 300));
        CHECK.due("6: it is late", 410, () -> x.arrives(0, 1));
        CHECK.due("6: the largest", 300, () -> x.late(0, 1, 0));
        CHECK.due("6: it is not late any more", 110, () -> x.arrives(0, 1));
        CHECK.due("6: the smallest", 0, () -> x.late(0, 1, 1));
        CHECK.due("6: of another STOP", 0, () -> x.late(0, 2, 1));
        CHECK.due("6: of another TRAIN", 0, () -> x.late(1, 1, 1));
    }

    // "if there is no such TRAIN, or STOP of it but the STOP 0"
    private static void noRunToTheStopZero() {
        Throughcoach x = stops(6);
        CHECK.index("6: the STOP 0", () -> x.late(0, 0, 0));
        CHECK.index("6: the STOP 0, and wrong minutes", () -> x.late(0, 0, 301));
        CHECK.due("6: the last STOP", 0, () -> x.late(0, 5, 300));
        CHECK.index("6: behind the last STOP", () -> x.late(0, 6, 0));
        CHECK.index("6: a STOP that only another TRAIN has", () -> x.late(1, 1, 0));
    }

    // "COACHES are numbered from 0, at most 10"
    private static void tenCoaches() {
        Throughcoach x = Scene.stations(1);
        for (int i = 0; i < 10; i++) {
            int number = i;
            CHECK.due("7: the number behind " + number, number, () -> x.coach(0, 5, 2, 60, 80, 63, true));
        }
        Supplier<Throughcoach> ten = () -> {
            Throughcoach y = Scene.stations(1);
            for (int i = 0; i < 10; i++) {
                Scene.coach(y, 0);
            }
            return y;
        };
        refused("7: if there are 10", ten, y -> y.coach(0, 0, 0, 20, 0, 0, false));
        refused("7: if there are 10, some taken out", () -> {
            Throughcoach y = ten.get();
            y.takeOut(0);
            y.takeOut(9);
            return y;
        }, y -> y.coach(0, 0, 0, 20, 0, 0, false));
    }

    // "It stands at a STATION at first."
    private static void whereItStandsAtFirst() {
        Throughcoach x = Scene.stations(10);
        for (int i = 0; i < 10; i++) {
            int number = i;
            Scene.coach(x, 9 - i);
            CHECK.due("7: at the STATION " + (9 - i), 9 - i, () -> x.coachOf(number, 0));
        }
    }

    /** The TRAIN 0 by 0, 1, 2, the TRAIN 1 by 2, 1, 0, the TRAIN 2 at 0 alone, the TRAIN 3 by 1, 3. */
    private static Throughcoach partsBetween(int parts) {
        Throughcoach x = Scene.stations(4);
        Scene.train(x, 100, 0, 1, 2);
        Scene.train(x, 300, 2, 1, 0);
        Scene.train(x, 500, 0);
        Scene.train(x, 700, 1, 3);
        Scene.coach(x, 0);
        for (int i = 0; i < parts; i++) {
            x.part(0, i % 2, i % 2 == 0 ? 2 : 0);
        }
        return x;
    }

    // "It has PARTS, at most 3, one behind the other"
    private static void threeParts() {
        for (int parts = 0; parts < 3; parts++) {
            Throughcoach x = partsBetween(parts);
            int train = parts % 2;
            int count = parts + 1;
            CHECK.due("8: how many it has then", count, () -> x.part(0, train, 1));
        }
        refused("8: if the COACH has 3 PARTS", () -> partsBetween(3), x -> x.part(0, 1, 0));
        refused("8: if the COACH has 3 PARTS, and the TRAIN is wrong", () -> partsBetween(3), x -> x.part(0, 0, 1));
    }

    // "or was taken out"
    private static void noPartIfTakenOut() {
        for (int parts = 0; parts < 4; parts++) {
            int told = parts;
            refused("8: taken out with " + told, () -> {
                Throughcoach x = partsBetween(told);
                x.takeOut(0);
                return x;
            }, x -> x.part(0, told % 2, 1));
        }
    }

    // "the first PART is from the STATION where the COACH stands at first, each further one from where the PART ahead
    // of it leads"
    private static void whereAPartIsFrom() {
        refused("8: the TRAIN has no STOP where it stands", () -> partsBetween(0), x -> x.part(0, 3, 3));
        refused("8: the second one from there again", () -> partsBetween(1), x -> x.part(0, 0, 1));
        Throughcoach x = partsBetween(0);
        CHECK.due("8: to the middle", 1, () -> x.part(0, 0, 1));
        CHECK.due("8: from the middle with the same TRAIN", 2, () -> x.part(0, 0, 2));
        CHECK.due("8: back with another one", 3, () -> x.part(0, 1, 1));
        Throughcoach y = partsBetween(0);
        y.part(0, 0, 1);
        CHECK.due("8: from the middle with another TRAIN", 2, () -> y.part(0, 3, 3));
    }

    // "at both of which it has STOPS, that of the first one ahead of that of the other one"
    private static void stopsOfAPart() {
        refused("8: to where it is from", () -> partsBetween(0), x -> x.part(0, 0, 0));
        refused("8: no STOP where it leads", () -> partsBetween(0), x -> x.part(0, 0, 3));
        refused("8: the STOPS are the other way round", () -> partsBetween(0), x -> x.part(0, 1, 1));
        refused("8: from the last STOP back", () -> partsBetween(1), x -> x.part(0, 0, 0));
        refused("8: a TRAIN with the STOP 0 alone", () -> partsBetween(0), x -> x.part(0, 2, 0));
        refused("8: a TRAIN with the STOP 0 alone, elsewhere", () -> partsBetween(0), x -> x.part(0, 2, 1));
        Throughcoach x = partsBetween(0);
        CHECK.due("8: as soon as the STOP is told", 1, () -> {
            x.stop(2, 3, 10, 10, 0);
            return x.part(0, 2, 3);
        });
    }

    // "from the first STOP to the last one" of six
    private static void longestPart() {
        Throughcoach x = stops(6);
        Scene.coach(x, 0);
        CHECK.due("8: from the STOP 0 to the STOP 5", 1, () -> x.part(0, 0, 5));
        CHECK.due("8: it is home there", 1, () -> x.coachOf(0, 3));
    }

    // "IllegalStateException if it was taken out"
    private static void takenOutTwice() {
        Supplier<Throughcoach> out = () -> {
            Throughcoach x = partsBetween(1);
            x.book(0, true, 30, 0);
            x.takeOut(0);
            return x;
        };
        refused("9: if it was taken out", out, x -> x.takeOut(0));
        Throughcoach x = partsBetween(0);
        CHECK.due("9: without PARTS and PERSONS", 0, () -> x.takeOut(0));
    }

    // "one night is reckoned by all that was told, anew whenever something was told"
    private static void reckonedAnew() {
        Throughcoach x = new Throughcoach();
        CHECK.due("20: none at first", 0, x::homes);
        x.station(0, 0);
        x.station(1, 0);
        x.train(0, 100, 40);
        CHECK.due("14: the last STOP", Throughcoach.NONE, () -> x.leaves(0, 0));
        x.stop(0, 1, 10, 10, 0);
        CHECK.due("14: told a STOP", 100, () -> x.leaves(0, 0));
        CHECK.due("15: told a STOP", 100, () -> x.leavesAnew(0, 0));
        Scene.coach(x, 0);
        CHECK.due("18: told a COACH", 0, () -> x.coachOf(0, 0));
        x.part(0, 0, 1);
        CHECK.due("18: told a PART", 1, () -> x.coachOf(0, 0));
        x.late(0, 1, 5);
        CHECK.due("13: told late", 115, () -> x.arrives(0, 1));
        x.train(1, 0, 100);
        x.stop(1, 0, 90, 10, 0);
        Scene.coach(x, 1, 1, 0);
        x.part(1, 0, 1);
        CHECK.due("20: told a connection", 2, x::homes);
        x.late(1, 1, 1);
        CHECK.due("20: told it is late", 1, x::homes);
        x.patience(0, 1);
        CHECK.due("14: told patience", 101, () -> x.leaves(0, 0));
        CHECK.due("15: told patience", 101, () -> x.leavesAnew(0, 0));
        CHECK.due("20: told patience", 2, x::homes);
        x.takeOut(1);
        CHECK.due("14: told that it was taken out", 100, () -> x.leaves(0, 0));
        CHECK.due("15: told that it was taken out", 100, () -> x.leavesAnew(0, 0));
        CHECK.due("20: told that it was taken out", 1, x::homes);
    }

    // the same for a night at the end of which a TRAIN was still under way
    private static void reckonedAnewFromTheBeginning() {
        Throughcoach x = Scene.stations(2);
        x.train(0, 1439, 1000);
        x.stop(0, 1, 300, 10, 0);
        Scene.coach(x, 0, 0, 1);
        x.late(0, 1, 261);
        CHECK.due("18: with the TRAIN", "-1 -1 0 0 1 0", () -> Scene.coachOf(x, 0));
        CHECK.due("21: none is home", 0, () -> x.best(0));
        x.late(0, 1, 260);
        CHECK.due("18: home in the last minute", "1 2009 1 1 1 0", () -> Scene.coachOf(x, 0));
        CHECK.due("16: it stands but once in the TRAIN", "0", () -> Scene.consist(x, 0, 0));
        CHECK.due("19: it is owed but once", 40, () -> x.owes(0, 1));
        CHECK.due("15: once more", 1439, () -> x.leavesAnew(0, 0));
        CHECK.due("21: it is home", 0, () -> x.best(0));
        x.late(0, 1, 261);
        CHECK.due("18: with the TRAIN again", "-1 -1 0 0 1 0", () -> Scene.coachOf(x, 0));
    }

    // "A new object: Nothing is told.": also if another one was used
    private static void objectsApart() {
        String before = Picture.of(Throughcoach::new);
        Throughcoach x = partsBetween(3);
        x.book(0, true, 30, 0);
        x.takeOut(0);
        CHECK.due("1: an object is not touched by another one", before, () -> Picture.of(Throughcoach::new));
    }

    public static void main(String[] args) {
        theLastCall();
        constants();
        tenStations();
        likeStations();
        sixTrains();
        theStopZero();
        sixStops();
        unlikeStations();
        plannedMinutes();
        patienceBefore();
        lateBefore();
        noRunToTheStopZero();
        tenCoaches();
        whereItStandsAtFirst();
        threeParts();
        noPartIfTakenOut();
        whereAPartIsFrom();
        stopsOfAPart();
        longestPart();
        takenOutTwice();
        reckonedAnew();
        reckonedAnewFromTheBeginning();
        objectsApart();
        CHECK.end();
    }
}
