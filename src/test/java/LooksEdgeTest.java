/** A test for each sentence of promises 14 to 17 that names a boundary. RefusedTest has the refused calls. */
public final class LooksEdgeTest extends Checks {
    public static void main(String[] args) {
        siloTonnes();
        siloLayers();
        siloPads();
        siloArch();
        siloShakesSinceTheBeginning();
        siloShakesSinceWhicheverWasLater();
        siloHowMuchCanFlow();
        siloHowMuchCanFlowUnderAnArch();
        siloWithoutLayers();
        siloOrLayerThatIsNotThere();
        layerNumbers();
        layerKinds();
        shipNumbers();
        countDays();
        countTonnes();
        countDust();
        countBroughtAndWent();
        countPadsAndArches();
        countShakesAndArchesFormed();
        countSettings();
        countSavedStates();
        countsOfABusyObject();
        end("LooksEdgeTest");
    }

    private static void siloTonnes() {
        sentence("promise 14: 0: its tonnes");
        SiloPads x = filled(500, 500, 199);
        x.ship(0, 900, 900);
        due("of all layers", x.silo(0, 0), 1199);
        x.unload(0, 0, 1);
        due("the most", x.silo(0, 0), 1200);
        due("another one", x.silo(1, 0), 0);
        x.flow(0, 1, 1);
        due("less", x.silo(0, 0), 1195);
        SiloPads y = hollowSilo(7, 8);
        due("above nothing, too", y.silo(0, 0), 15);
    }

    private static void siloLayers() {
        sentence("promise 14: 1: its layers");
        SiloPads x = new SiloPads();
        x.set(1, 20);
        x.ship(0, 900, 900);
        for (int layers = 0; layers <= 10; layers++) {
            due("layers", x.silo(2, 1), layers);
            due("none elsewhere", x.silo(3, 1), 0);
            x.unload(2, 0, 3);
            x.pass(1);
        }
        due("ten", x.silo(2, 1), 10);
        x.pads(2, 1);
        for (int layers = 9; layers >= 0; layers--) {
            x.flow(2, 1, 1);
            due("layers", x.silo(2, 1), layers);
        }
    }

    private static void siloPads() {
        sentence("promise 14: 2: pads on");
        SiloPads x = new SiloPads();
        for (int pads = 0; pads <= 4; pads++) {
            x.pads(3, pads);
            due("on", x.silo(3, 2), pads);
            due("none elsewhere", x.silo(2, 2), 0);
        }
    }

    private static void siloArch() {
        sentence("promise 14: 3: 1 if there is an arch, otherwise 0");
        SiloPads x = filled(60, 10);
        x.pass(2);
        due("not yet", x.silo(0, 3), 0);
        x.pass(1);
        due("above the lowest", x.silo(0, 3), 1);
        due("none elsewhere", x.silo(1, 3), 0);
        x.pads(0, 4);
        x.flow(0, 1, 1);
        due("above nothing", x.silo(0, 3), 1);
        x.set(3, 10);
        x.shake(0);
        due("broken", x.silo(0, 3), 0);
    }

    private static void siloShakesSinceTheBeginning() {
        sentence("promise 14: 4: shakes, or since the beginning");
        SiloPads x = new SiloPads();
        for (int silo = 0; silo < 4; silo++) {
            due("no layer was ever made", x.silo(silo, 4), 0);
        }
        SiloPads y = filled(5);
        for (int k = 1; k <= 4; k++) {
            y.shake(0);
            due("shakes", y.silo(0, 4), k);
        }
        due("none elsewhere", y.silo(1, 4), 0);
        y.flow(0, 1, 1);
        due("of a silo that ran empty", y.silo(0, 4), 4);
        y.pass(30);
        due("days do nothing to it", y.silo(0, 4), 4);
        y.ship(0, 900, 1);
        y.unload(0, 0, 1);
        due("a first layer again", y.silo(0, 4), 0);
    }

    private static void siloShakesSinceWhicheverWasLater() {
        sentence("promise 14: 4: since an arch formed, or a new layer was made, whichever was later");
        SiloPads x = filled(10, 10);
        x.shake(0);
        due("since the layer", x.silo(0, 4), 1);
        x.pass(4);
        due("since the arch, which was later", x.silo(0, 4), 0);
        x.shake(0);
        due("one", x.silo(0, 4), 1);
        x.ship(0, 900, 10);
        x.unload(0, 0, 5);
        due("since the layer, which was later", x.silo(0, 4), 0);
        x.shake(0);
        x.unload(0, 0, 5);
        due("nothing new", x.silo(0, 4), 1);
        x.set(3, 0);
        due("broken", x.shake(0), 1);
        due("a broken arch does nothing to it", x.silo(0, 4), 2);
        x.pass(30);
        due("a new arch", x.silo(0, 4), 0);
    }

    private static void siloHowMuchCanFlow() {
        sentence("promise 14: 5: how much can flow out of the lowest layer in an hour");
        int[][] rates = {{5, 40, 80, 120, 160}, {0, 0, 20, 40, 60}, {0, 0, 0, 0, 10}};
        for (int age = 0; age <= 9; age++) {
            int kind = age <= 3 ? 0 : age <= 6 ? 1 : 2;
            for (int pads = 0; pads <= 4; pads++) {
                SiloPads x = aged(300, age);
                x.pads(0, pads);
                due("age " + age + ", pads " + pads, x.silo(0, 5), rates[kind][pads]);
            }
        }
        SiloPads y = filled(1);
        y.pads(0, 4);
        due("whatever it has", y.silo(0, 5), 160);
    }

    private static void siloHowMuchCanFlowUnderAnArch() {
        sentence("promise 14: (with or without an arch)");
        SiloPads x = archedSilo(60, 10);
        x.pads(0, 4);
        due("with one", x.silo(0, 5), 60);
        x.flow(0, 1, 1);
        due("above nothing, of the lowest above it", x.silo(0, 5), 160);
        x.pass(1);
        due("which is stiff now", x.silo(0, 5), 60);
        x.set(3, 0);
        x.shake(0);
        due("without one, and soft again", x.silo(0, 5), 160);
    }

    private static void siloWithoutLayers() {
        sentence("promise 14: 0 without layers");
        SiloPads x = new SiloPads();
        for (int pads = 0; pads <= 4; pads++) {
            x.pads(0, pads);
            siloIs(x, 0, 0, 0, pads, 0, 0, 0);
        }
        SiloPads y = filled(5);
        due("5 with its layer", y.silo(0, 5), 5);
        y.flow(0, 1, 1);
        due("0 without it", y.silo(0, 5), 0);
    }

    private static void siloOrLayerThatIsNotThere() {
        sentence("promise 15: IndexOutOfBoundsException if there is no such silo or layer");
        Maker three = () -> {
            SiloPads x = filled(30, 20, 5);
            fill(x, 2, 7);
            return x;
        };
        for (int what = -1; what <= 3; what++) {
            int w = what;
            refused("layer 3 of 3", INDEX, three, x -> x.layer(0, 3, w));
            refused("layer -1", INDEX, three, x -> x.layer(0, -1, w));
            refused("layer 1 of 1", INDEX, three, x -> x.layer(2, 1, w));
            refused("layer 0 of 0", INDEX, three, x -> x.layer(1, 0, w));
            refused("silo 4", INDEX, three, x -> x.layer(4, 0, w));
            refused("silo -1", INDEX, three, x -> x.layer(-1, 0, w));
        }
        looked("layer 2 of 3", 5, three, x -> x.layer(0, 2, 0));
        looked("layer 0 of 1", 7, three, x -> x.layer(2, 0, 0));
        Maker ten = () -> filled(1, 2, 3, 4, 5, 6, 7, 8, 9, 10);
        looked("layer 9 of 10", 10, ten, x -> x.layer(0, 9, 0));
        refused("layer 10 of 10", INDEX, ten, x -> x.layer(0, 10, 0));
        refused("a layer that is gone", INDEX, () -> {
            SiloPads x = filled(5, 9);
            x.flow(0, 1, 1);
            return x;
        }, x -> x.layer(0, 1, 0));
        refused("a layer that was undone", INDEX, () -> {
            SiloPads x = new SiloPads();
            x.ship(0, 900, 5);
            x.unload(0, 0, 5);
            x.undo();
            return x;
        }, x -> x.layer(0, 0, 0));
    }

    private static void layerNumbers() {
        sentence("promise 15: 0: its tonnes; 1: its age");
        SiloPads x = filled(500, 1, 30);
        x.pass(30);
        int[] tonnes = {500, 1, 30};
        for (int layer = 0; layer < 3; layer++) {
            due("tonnes", x.layer(0, layer, 0), tonnes[layer]);
            due("age", x.layer(0, layer, 1), 32 - layer);
        }
    }

    private static void layerKinds() {
        sentence("promise 15: 2: 0 if it is soft, 1 if stiff, 2 if hard");
        SiloPads x = filled(1, 1, 1, 1, 1, 1, 1, 1, 1);
        int[] kinds = {2, 2, 1, 1, 1, 0, 0, 0, 0};
        for (int layer = 0; layer < 9; layer++) {
            due("age " + (8 - layer), x.layer(0, layer, 2), kinds[layer]);
        }
    }

    private static void shipNumbers() {
        sentence("promise 16: 0: its tonnes; 1: its hold");
        SiloPads x = filled(100);
        x.ship(5, 900, 899);
        due("tonnes", x.shipOf(5, 0), 899);
        due("hold", x.shipOf(5, 1), 900);
        x.flow(0, 5, 1);
        due("full", x.shipOf(5, 0), 900);
        x.unload(1, 5, 500);
        x.unload(1, 5, 400);
        due("empty", x.shipOf(5, 0), 0);
        due("its hold stays", x.shipOf(5, 1), 900);
    }

    private static void countDays() {
        sentence("promise 17: 0: days so far");
        SiloPads x = new SiloPads();
        due("none", x.count(0), 0);
        x.pass(1);
        x.pass(30);
        due("31", x.count(0), 31);
        thrownBy(() -> x.pass(31));
        due("no refused ones", x.count(0), 31);
        type(x, "+2;+3");
        x.play();
        due("those of a text", x.count(0), 36);
        x.undo();
        due("no undone ones", x.count(0), 31);
    }

    private static void countTonnes() {
        sentence("promise 17: 1: tonnes in all silos; 2: tonnes in all ships");
        SiloPads x = new SiloPads();
        int ships = 0;
        for (int ship = 0; ship < 6; ship++) {
            x.ship(ship, 900, 100 + ship);
            ships += 100 + ship;
            due("in ships", x.count(2), ships);
        }
        for (int silo = 0; silo < 4; silo++) {
            x.unload(silo, silo, 10 * (silo + 1));
        }
        due("in silos", x.count(1), 100);
        due("in ships", x.count(2), ships - 100);
        SiloPads y = new SiloPads();
        for (int silo = 0; silo < 4; silo++) {
            fill(y, silo, 500, 500, 200);
        }
        for (int ship = 0; ship < 6; ship++) {
            y.ship(ship, 900, 900);
        }
        due("all that silos hold", y.count(1), 4800);
        due("all that ships hold", y.count(2), 5400);
    }

    private static void countDust() {
        sentence("promise 17: 3: dust so far");
        SiloPads x = filled(500);
        x.pads(0, 4);
        x.flow(0, 1, 1);
        due("8", x.count(3), 8);
        due("would flow", x.ifFlowed(0, 1, 1, 4), 152);
        due("what would be makes none", x.count(3), 8);
        type(x, "0>1:1");
        x.play();
        due("that of a text", x.count(3), 16);
        x.ship(1, 900, 0);
        x.flow(0, 1, 1);
        due("so far", x.count(3), 24);
        x.undo();
        due("undone", x.count(3), 16);
    }

    private static void countBroughtAndWent() {
        sentence("promise 17: 4: tonnes that ships brought (by ship()); 5: tonnes that went with ships that were replaced");
        SiloPads x = new SiloPads();
        x.ship(0, 900, 900);
        due("brought", x.count(4), 900);
        due("an empty one went", x.count(5), 0);
        x.ship(0, 900, 900);
        due("brought", x.count(4), 1800);
        due("went", x.count(5), 900);
        x.unload(0, 0, 400);
        x.flow(0, 1, 1);
        due("only by ship()", x.count(4), 1800);
        due("only by ship()", x.count(5), 900);
        x.ship(0, 0, 0);
        due("nothing brought", x.count(4), 1800);
        due("what was left went", x.count(5), 1400);
        thrownBy(() -> x.ship(0, 10, 11));
        due("no refused ones", x.count(4), 1800);
    }

    private static void countPadsAndArches() {
        sentence("promise 17: 6: pads on; 7: arches");
        SiloPads x = new SiloPads();
        x.set(0, 16);
        for (int silo = 0; silo < 4; silo++) {
            x.pads(silo, silo + 1);
        }
        due("pads", x.count(6), 10);
        SiloPads y = busy();
        due("arches above a layer and above nothing", y.count(7), 3);
        due("one above nothing", y.whyNot(1, 0), 2);
        y.set(3, 0);
        for (int silo = 0; silo < 3; silo++) {
            y.shake(silo);
            due("one less", y.count(7), 2 - silo);
        }
    }

    private static void countShakesAndArchesFormed() {
        sentence("promise 17: 8: shakes so far; 9: arches formed so far");
        SiloPads x = archedSilo(100, 250);
        due("formed", x.count(9), 1);
        for (int k = 1; k <= 4; k++) {
            x.shake(0);
            due("shakes", x.count(8), k);
        }
        due("broken, but it formed", x.count(9), 1);
        x.pass(30);
        due("a second one", x.count(9), 2);
        due("shakes so far", x.count(8), 4);
        fill(x, 2, 10);
        x.shake(2);
        due("of all silos", x.count(8), 5);
        thrownBy(() -> x.shake(1));
        due("no refused ones", x.count(8), 5);
    }

    private static void countSettings() {
        sentence("promise 17: 10 to 13: the settings 0 to 3");
        SiloPads x = new SiloPads();
        int[] values = {16, 20, 100, 900};
        for (int setting = 0; setting < 4; setting++) {
            x.set(setting, values[setting]);
        }
        for (int setting = 0; setting < 4; setting++) {
            due("setting", x.count(10 + setting), values[setting]);
        }
        dueThrow(x, "15", ARGUMENT, () -> x.count(15));
    }

    private static void countSavedStates() {
        sentence("promise 17: 14: saved states");
        SiloPads x = new SiloPads();
        for (int calls = 0; calls <= 8; calls++) {
            due("saved", x.count(14), Math.min(6, calls));
            x.pads(0, 0);
        }
        for (int left = 5; left >= 0; left--) {
            x.undo();
            due("left", x.count(14), left);
        }
    }

    private static void countsOfABusyObject() {
        sentence("promise 17: each number for itself");
        countsAre(busy(), 10, 145 + 120 + 50, 181 + 40 + 48, 2, 2040, 2000 - 145 - 220 - 181, 6, 3, 1, 3, 6, 5, 19, 200, 6);
    }
}
