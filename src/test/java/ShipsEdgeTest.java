/** A test for each sentence of "Flowing" and of promises 1 to 4 that names a boundary. RefusedTest has the refused calls. */
public final class ShipsEdgeTest extends Checks {
    public static void main(String[] args) {
        newObjectIsEmpty();
        newObjectsShareNothing();
        holdFrom0To900();
        tonnesFrom0ToHold();
        shipInPlaceOfTheOneBefore();
        shipReturnsWhatTheOneBeforeHad();
        asMuchAsTold();
        asMuchAsTheShipHas();
        asMuchAsHasPlace();
        nothingComes();
        ratesOfASoftLayer();
        ratesOfAStiffLayer();
        ratesOfAHardLayer();
        rateByTheLowestLayer();
        notMoreThanItHas();
        notMoreThanTheShipHasRoomFor();
        roomCountsTheDust();
        fullShipTakesNothing();
        dustOfEachWholeSetting();
        dustOfAnHourNotOfTheCall();
        dustIsLost();
        hoursFrom1To24();
        hourByHour();
        nextLayerFromTheNextHourOn();
        nextLayerHasItsOwnRate();
        underAnArchNothingMore();
        underAnArchTheLowestToItsEnd();
        brokenArchLetsFlow();
        flowLeavesAgesAndShakes();
        flowOutOfNothing();
        end("ShipsEdgeTest");
    }

    private static void newObjectIsEmpty() {
        sentence("promise 1: Creates empty silos and ships, with all pads off, and an empty buffer");
        SiloPads x = new SiloPads();
        for (int silo = 0; silo < 4; silo++) {
            int s = silo;
            siloIs(x, silo, 0, 0, 0, 0, 0, 0);
            due("no arch", x.shakesNeeded(silo), 0);
            dueThrow(x, "no layer", INDEX, () -> x.layer(s, 0, 0));
        }
        countsAre(x, 0, 0, 0, 0, 0, 0, 0, 0, 0, 0, 6, 3, 20, 200, 0);
        due("no error", x.firstError(), 0);
        dueThrow(x, "nothing to undo", STATE, x::undo);
        dueThrow(x, "nothing to play", ARGUMENT, x::play);
        due("empty buffer", x.clearBuffer(), 0);
        due("NONE", SiloPads.NONE, -1);
    }

    private static void newObjectsShareNothing() {
        sentence("promise 1: a new object, whatever others did");
        SiloPads other = busy();
        SiloPads x = new SiloPads();
        due("as every new one", x.digest(), new SiloPads().digest());
        long before = other.digest();
        x.ship(0, 900, 900);
        x.unload(0, 0, 500);
        x.set(3, 1);
        type(x, "+1");
        due("nor the other way", other.digest(), before);
    }

    private static void holdFrom0To900() {
        sentence("promise 2: hold: 0 to 900");
        SiloPads x = new SiloPads();
        for (int hold : new int[] {0, 1, 899, 900}) {
            due("before", x.ship(3, hold, 0), 0);
            due("hold", x.shipOf(3, 1), hold);
        }
        dueThrow(x, "901", ARGUMENT, () -> x.ship(3, 901, 0));
        dueThrow(x, "-1", ARGUMENT, () -> x.ship(3, -1, 0));
        due("as it was", x.shipOf(3, 1), 900);
        due("saved by four", x.count(14), 4);
    }

    private static void tonnesFrom0ToHold() {
        sentence("promise 2: tonnes: 0 to hold");
        for (int hold : new int[] {0, 1, 2, 450, 900}) {
            SiloPads x = new SiloPads();
            due("none", x.ship(2, hold, 0), 0);
            if (hold > 0) {
                x.ship(2, hold, hold - 1);
                due("one less", x.shipOf(2, 0), hold - 1);
            }
            x.ship(2, hold, hold);
            due("full", x.shipOf(2, 0), hold);
            dueThrow(x, "one more", ARGUMENT, () -> x.ship(2, hold, hold + 1));
            dueThrow(x, "less than none", ARGUMENT, () -> x.ship(2, hold, -1));
            due("as it was", x.shipOf(2, 0), hold);
        }
    }

    private static void shipInPlaceOfTheOneBefore() {
        sentence("promise 2: A ship comes with tonnes, in place of the one with its number");
        SiloPads x = new SiloPads();
        x.ship(4, 900, 30);
        x.ship(5, 60, 50);
        x.ship(4, 20, 8);
        due("tonnes, not added", x.shipOf(4, 0), 8);
        due("hold", x.shipOf(4, 1), 20);
        due("another one stays", x.shipOf(5, 0), 50);
        due("brought", x.count(4), 88);
        due("went", x.count(5), 30);
        due("in ships", x.count(2), 58);
        SiloPads y = filled(100);
        y.ship(1, 900, 0);
        y.flow(0, 1, 3);
        due("what flowed into it went, too", y.ship(1, 0, 0), 15);
        due("went", y.count(5), 15);
        due("brought by ship() only", y.count(4), 100);
    }

    private static void shipReturnsWhatTheOneBeforeHad() {
        sentence("promise 2: Returns what the one before had");
        SiloPads x = new SiloPads();
        due("none at first", x.ship(0, 900, 900), 0);
        due("all", x.ship(0, 900, 0), 900);
        due("none", x.ship(0, 1, 1), 0);
        due("one", x.ship(0, 0, 0), 1);
        due("of hold 0", x.ship(0, 5, 5), 0);
        x.unload(0, 0, 2);
        due("what is left", x.ship(0, 5, 4), 3);
    }

    private static void asMuchAsTold() {
        sentence("promise 3: Returns how much comes: as much as told (1 to 500)");
        for (int tonnes : new int[] {1, 2, 499, 500}) {
            SiloPads x = new SiloPads();
            x.ship(1, 900, 501);
            due("told", x.unload(2, 1, tonnes), tonnes);
            due("in the silo", x.silo(2, 0), tonnes);
            due("in the ship", x.shipOf(1, 0), 501 - tonnes);
            dueThrow(x, "501", ARGUMENT, () -> x.unload(2, 1, 501));
            dueThrow(x, "0", ARGUMENT, () -> x.unload(2, 1, 0));
            due("hold stays", x.shipOf(1, 1), 900);
        }
    }

    private static void asMuchAsTheShipHas() {
        sentence("promise 3: as much as the ship has");
        for (int told = 39; told <= 41; told++) {
            SiloPads x = new SiloPads();
            x.ship(1, 900, 40);
            int comes = Math.min(40, told);
            due("told " + told, x.unload(0, 1, told), comes);
            due("left", x.shipOf(1, 0), 40 - comes);
            layersAre(x, 0, comes);
        }
    }

    private static void asMuchAsHasPlace() {
        sentence("promise 3: as much as has place");
        for (int told = 99; told <= 101; told++) {
            SiloPads x = filled(500, 500, 100);
            x.set(1, 20);
            x.pass(1);
            x.ship(1, 900, 500);
            int comes = Math.min(100, told);
            due("told " + told, x.unload(0, 1, told), comes);
            due("left", x.shipOf(1, 0), 500 - comes);
            layersAre(x, 0, 500, 500, 100, comes);
        }
    }

    private static void nothingComes() {
        sentence("promise 3: Undoable, also if nothing comes");
        Maker none = () -> filled(20);
        undoable("unload of an empty ship", 0, none, x -> x.unload(0, 0, 500));
        Maker fullSilo = () -> {
            SiloPads x = filled(500, 500, 200);
            x.ship(0, 900, 900);
            return x;
        };
        undoable("unload into a full silo", 0, fullSilo, x -> x.unload(0, 0, 1));
        SiloPads x = new SiloPads();
        x.ship(0, 0, 0);
        due("of a ship without hold", x.unload(0, 0, 500), 0);
        layersAre(x, 0);
        due("saved even so", x.count(14), 2);
    }

    /** How much comes out in an hour with 0 to 4 pads, without dust, and what silo and ifFlowed tell of it. */
    private static void ratesAre(int age, int... rates) {
        for (int pads = 0; pads <= 4; pads++) {
            SiloPads x = aged(500, age);
            int dust = rates[pads] / 20;
            due("would, age " + age, x.ifFlowed(0, 1, 1, pads), rates[pads] - dust);
            x.pads(0, pads);
            due("can, age " + age, x.silo(0, 5), rates[pads]);
            due("why not, age " + age, x.whyNot(0, 1), rates[pads] == 0 ? 4 : 0);
            due("does, age " + age, x.flow(0, 1, 1), rates[pads] - dust);
            due("left, age " + age, x.silo(0, 0), 500 - rates[pads]);
        }
    }

    private static void ratesOfASoftLayer() {
        sentence("with p pads on is 40 times p tonnes, if it is soft; Without pads a soft layer flows with 5 tonnes");
        for (int age = 0; age <= 3; age++) {
            ratesAre(age, 5, 40, 80, 120, 160);
        }
    }

    private static void ratesOfAStiffLayer() {
        sentence("20 times (p less 1), if it is stiff, and p is above 0");
        for (int age = 4; age <= 6; age++) {
            ratesAre(age, 0, 0, 20, 40, 60);
        }
    }

    private static void ratesOfAHardLayer() {
        sentence("10 times (p less 3), if it is hard, and p is 4; and otherwise 0");
        for (int age = 7; age <= 9; age++) {
            ratesAre(age, 0, 0, 0, 0, 10);
        }
        ratesAre(60, 0, 0, 0, 0, 10);
    }

    private static void rateByTheLowestLayer() {
        sentence("How much can flow out of the lowest layer");
        SiloPads x = filled(100, 100);
        x.shake(0);
        x.pass(3);
        due("soft below", x.layer(0, 0, 2), 0);
        x.pass(1);
        due("stiff below", x.layer(0, 0, 2), 1);
        x.pads(0, 2);
        due("by the lowest", x.silo(0, 5), 20);
        SiloPads y = filled(100, 100);
        y.pass(3);
        due("stiff below soft", y.layer(0, 1, 2), 0);
        y.pads(0, 4);
        due("by the lowest", y.silo(0, 5), 60);
    }

    private static void notMoreThanItHas() {
        sentence("as much as can flow out of the lowest layer comes out of it, but not more than it has");
        for (int has = 39; has <= 41; has++) {
            SiloPads x = filled(has, 300);
            x.pads(0, 1);
            x.set(2, 100);
            int out = Math.min(40, has);
            due("of " + has, x.flow(0, 1, 1), out);
            due("left", x.silo(0, 0), has + 300 - out);
            due("layers", x.silo(0, 1), has > 40 ? 2 : 1);
        }
    }

    private static void notMoreThanTheShipHasRoomFor() {
        sentence("not more than the ship has room for");
        for (int room = 1; room <= 7; room++) {
            SiloPads x = filled(100);
            x.ship(1, 50, 50 - room);
            int comes = Math.min(5, room);
            due("room for " + room, x.flow(0, 1, 1), comes);
            due("in the ship", x.shipOf(1, 0), 50 - room + comes);
            due("left", x.silo(0, 0), 100 - comes);
            due("full", x.whyNot(0, 1), room <= 5 ? 3 : 0);
        }
    }

    private static void roomCountsTheDust() {
        sentence("nor than the ship has room for (with the dust)");
        for (int room = 19; room <= 41; room++) {
            SiloPads x = filled(400);
            x.pads(0, 1);
            x.ship(1, 700, 700 - room);
            int out = Math.min(40, room);
            int dust = out < 20 ? 0 : out < 40 ? 1 : 2;
            due("would, room " + room, x.ifFlowed(0, 1, 1, 1), out - dust);
            due("does, room " + room, x.flow(0, 1, 1), out - dust);
            due("came out, room " + room, x.silo(0, 0), 400 - out);
            due("room left of " + room, 700 - x.shipOf(1, 0), room - out + dust);
        }
    }

    private static void fullShipTakesNothing() {
        sentence("not more than the ship has room for: a full one");
        for (int hold : new int[] {0, 1, 500, 900}) {
            SiloPads x = filled(100);
            x.pads(0, 4);
            x.ship(1, hold, hold);
            due("nothing", x.flow(0, 1, 24), 0);
            due("would not", x.ifFlowed(0, 1, 24, 4), 0);
            layersAre(x, 0, 100);
            due("no dust", x.count(3), 0);
        }
    }

    private static void dustOfEachWholeSetting() {
        sentence("one tonne in each whole setting 2 tonnes of an hour");
        int[][] outAndDust = {{19, 0}, {20, 1}, {21, 1}, {39, 1}, {40, 2}, {41, 2}, {59, 2}, {60, 3}, {159, 7}, {160, 8}};
        for (int[] due : outAndDust) {
            SiloPads x = filled(due[0]);
            x.pads(0, 4);
            due("comes of " + due[0], x.flow(0, 1, 1), due[0] - due[1]);
            due("dust of " + due[0], x.count(3), due[1]);
            due("none left of " + due[0], x.silo(0, 1), 0);
        }
        for (int per = 5; per <= 6; per++) {
            SiloPads x = filled(100);
            x.set(2, per);
            due("5 tonnes by " + per, x.flow(0, 1, 1), per == 5 ? 4 : 5);
        }
        SiloPads y = filled(100);
        y.pads(0, 4);
        y.set(2, 100);
        due("100 by 100", y.flow(0, 1, 1), 99);
        SiloPads z = filled(99);
        z.pads(0, 4);
        z.set(2, 100);
        due("99 by 100", z.flow(0, 1, 1), 99);
    }

    private static void dustOfAnHourNotOfTheCall() {
        sentence("of an hour");
        SiloPads x = filled(500);
        due("24 hours of 5 tonnes", x.flow(0, 1, 24), 120);
        due("no dust", x.count(3), 0);
        x.set(2, 6);
        x.flow(0, 1, 2);
        due("none of 5 and 5", x.count(3), 0);
        x.set(2, 5);
        due("1 of each 5", x.flow(0, 1, 3), 12);
        due("dust", x.count(3), 3);
        SiloPads y = filled(30, 30);
        y.pads(0, 1);
        due("1 of each 30", y.flow(0, 1, 2), 58);
        due("dust, not of 60 together", y.count(3), 2);
    }

    private static void dustIsLost() {
        sentence("dust, which is lost; the rest comes into the ship");
        SiloPads x = filled(200);
        x.pads(0, 3);
        due("comes", x.flow(0, 1, 1), 114);
        due("in the ship", x.shipOf(1, 0), 114);
        due("dust", x.count(3), 6);
        due("in all", x.count(1) + x.count(2) + x.count(3), 200);
    }

    private static void hoursFrom1To24() {
        sentence("promise 4: hours: 1 to 24");
        for (int hours : new int[] {1, 2, 23, 24}) {
            SiloPads x = filled(500);
            due("hours " + hours, x.flow(0, 1, hours), 5 * hours);
            due("left", x.silo(0, 0), 500 - 5 * hours);
            due("no day", x.count(0), 0);
        }
        SiloPads y = filled(500);
        dueThrow(y, "25", ARGUMENT, () -> y.flow(0, 1, 25));
        dueThrow(y, "0", ARGUMENT, () -> y.flow(0, 1, 0));
    }

    private static void hourByHour() {
        sentence("hour by hour");
        SiloPads at = filled(120, 500);
        SiloPads once = filled(120, 500);
        at.pads(0, 1);
        once.pads(0, 1);
        at.ship(1, 300, 0);
        once.ship(1, 300, 0);
        int sum = 0;
        for (int hour = 0; hour < 12; hour++) {
            sum += at.flow(0, 1, 1);
        }
        due("as single hours", once.flow(0, 1, 12), sum);
        dueText("the same comes of it", view(once), view(at));
        SiloPads y = filled(500);
        y.pads(0, 1);
        y.ship(1, 48, 0);
        due("38 first", y.ifFlowed(0, 1, 1, 1), 38);
        due("10 more", y.ifFlowed(0, 1, 2, 1), 48);
        due("then it is full", y.ifFlowed(0, 1, 3, 1), 48);
    }

    private static void nextLayerFromTheNextHourOn() {
        sentence("When a layer is empty, it is gone, and the next one is the lowest from the next hour on");
        for (int lowest = 79; lowest <= 81; lowest++) {
            SiloPads x = filled(lowest, 100);
            x.pads(0, 2);
            x.set(2, 100);
            due("of the lowest alone", x.flow(0, 1, 1), Math.min(80, lowest));
            if (lowest <= 80) {
                layersAre(x, 0, 100);
                due("from the next hour on", x.flow(0, 1, 1), 80);
                layersAre(x, 0, 20);
            } else {
                layersAre(x, 0, 1, 100);
                due("one tonne takes its hour", x.flow(0, 1, 1), 1);
                layersAre(x, 0, 100);
            }
        }
        SiloPads y = filled(1, 1, 1, 1, 1, 1, 1, 1, 1, 1);
        y.set(1, 20);
        due("an hour for each", y.ifFlowed(0, 1, 9, 4), 9);
        due("ten layers in ten hours", y.flow(0, 1, 10), 10);
        layersAre(y, 0);
        due("nothing more", y.flow(0, 1, 1), 0);
    }

    private static void nextLayerHasItsOwnRate() {
        sentence("the next one is the lowest: it flows by its own age");
        SiloPads x = new SiloPads();
        x.set(1, 20);
        x.ship(0, 900, 900);
        x.unload(0, 0, 60);
        x.pass(10);
        x.unload(0, 0, 100);
        x.set(1, 9);
        x.pads(0, 4);
        due("60 stiff, 100 soft", x.flow(0, 1, 2), 57 + 95);
    }

    private static void underAnArchNothingMore() {
        sentence("but if an arch is there, nothing more flows, till it is broken (the arch stays, above nothing)");
        for (int lowest = 59; lowest <= 61; lowest++) {
            SiloPads x = archedSilo(lowest, 70);
            x.pads(0, 4);
            x.set(2, 100);
            due("the first hour", x.ifFlowed(0, 1, 1, 4), Math.min(60, lowest));
            due("the second hour", x.ifFlowed(0, 1, 2, 4), lowest);
            due("would in all", x.ifFlowed(0, 1, 24, 4), lowest);
            due("does in all", x.flow(0, 1, 24), lowest);
            layersAre(x, 0, 70);
            due("the arch stays", x.silo(0, 3), 1);
            due("above nothing", x.whyNot(0, 1), 2);
            due("nothing more", x.flow(0, 1, 24), 0);
            due("would not either", x.ifFlowed(0, 1, 24, 4), 0);
            layersAre(x, 0, 70);
            due("though it could", x.silo(0, 5), 160);
        }
    }

    private static void underAnArchTheLowestToItsEnd() {
        sentence("with it nothing flows but the lowest layer: a layer that is not empty goes on");
        SiloPads x = archedSilo(100, 70, 30);
        x.pads(0, 2);
        due("20 an hour", x.flow(0, 1, 4), 4 * 19);
        layersAre(x, 0, 20, 70, 30);
        due("not yet above nothing", x.whyNot(0, 1), 0);
        due("the last 20", x.flow(0, 1, 1), 19);
        due("above nothing", x.whyNot(0, 1), 2);
        layersAre(x, 0, 70, 30);
    }

    private static void brokenArchLetsFlow() {
        sentence("nothing more flows, till it is broken");
        SiloPads x = hollowSilo(30, 40);
        x.pads(0, 4);
        due("held", x.flow(0, 1, 24), 0);
        x.shake(0);
        due("held", x.flow(0, 1, 24), 0);
        x.shake(0);
        due("held", x.flow(0, 1, 24), 0);
        due("broken", x.shake(0), 1);
        due("flows", x.flow(0, 1, 24), 29 + 38);
        layersAre(x, 0);
    }

    private static void flowLeavesAgesAndShakes() {
        sentence("promise 4: hours are no days, and a layer that is gone is no new layer");
        SiloPads x = filled(5, 20);
        x.shake(0);
        x.flow(0, 1, 24);
        layersAre(x, 0);
        due("shakes", x.silo(0, 4), 1);
        due("days", x.count(0), 1);
        SiloPads y = aged(500, 2);
        y.flow(0, 1, 24);
        due("age", y.layer(0, 0, 1), 2);
    }

    private static void flowOutOfNothing() {
        sentence("promise 4: Undoable, also if nothing flows");
        undoable("flow out of an empty silo", 0, SiloPads::new, x -> x.flow(0, 0, 24));
        undoable("flow out of a hard layer", 0, () -> aged(10, 30), x -> x.flow(0, 1, 24));
        undoable("flow of an arch above nothing", 0, () -> hollowSilo(10), x -> x.flow(0, 1, 24));
        undoable("flow into a full ship", 0, Checks::busy, x -> x.flow(0, 1, 24));
    }
}
