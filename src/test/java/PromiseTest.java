/** One method for each promise of the document: ordinary inputs, edges, wrong inputs. */
public final class PromiseTest extends Checks {
    public static void main(String[] args) {
        newObject();
        ship();
        unload();
        unloadHasPlace();
        flow();
        flowOverLayers();
        flowUnderArch();
        pads();
        shake();
        shakeThirdTime();
        pass();
        set();
        append();
        clearBuffer();
        firstError();
        play();
        undo();
        silo();
        layer();
        shipOf();
        count();
        whyNot();
        ifFlowed();
        urgent();
        nextArch();
        shakesNeeded();
        softness();
        digest();
        end("PromiseTest");
    }

    private static void newObject() {
        sentence("promise 1");
        SiloPads x = new SiloPads();
        for (int silo = 0; silo < 4; silo++) {
            siloIs(x, silo, 0, 0, 0, 0, 0, 0);
        }
        for (int ship = 0; ship < 6; ship++) {
            due("tonnes", x.shipOf(ship, 0), 0);
            due("hold", x.shipOf(ship, 1), 500);
        }
        int[] counts = {0, 0, 0, 0, 0, 0, 0, 0, 0, 0, 6, 3, 20, 200, 0};
        countsAre(x, counts);
        due("buffer", x.clearBuffer(), 0);
        due("NONE", SiloPads.NONE, -1);
        SiloPads other = new SiloPads();
        other.ship(0, 900, 900);
        due("objects of their own", x.shipOf(0, 1), 500);
    }

    private static void ship() {
        sentence("promise 2");
        SiloPads x = new SiloPads();
        due("first", x.ship(0, 900, 900), 0);
        due("second", x.ship(0, 0, 0), 900);
        due("hold 0", x.shipOf(0, 1), 0);
        due("went", x.count(5), 900);
        x.undo();
        due("went, undone", x.count(5), 0);
        x.ship(0, 0, 0);
        due("third", x.ship(0, 7, 7), 0);
        due("fourth", x.ship(5, 10, 3), 0);
        due("brought", x.count(4), 910);
        due("went", x.count(5), 900);
        due("in ships", x.count(2), 10);
        due("saved", x.count(14), 4);
        dueThrow(x, "ship -1", INDEX, () -> x.ship(-1, 5, 5));
        dueThrow(x, "ship 6 before hold", INDEX, () -> x.ship(6, 901, -1));
        dueThrow(x, "hold -1", ARGUMENT, () -> x.ship(0, -1, -1));
        dueThrow(x, "hold -1, none", ARGUMENT, () -> x.ship(0, -1, 0));
        dueThrow(x, "hold 901", ARGUMENT, () -> x.ship(0, 901, 0));
        dueThrow(x, "tonnes -1", ARGUMENT, () -> x.ship(0, 5, -1));
        dueThrow(x, "tonnes over hold", ARGUMENT, () -> x.ship(0, 5, 6));
        dueThrow(x, "largest", ARGUMENT, () -> x.ship(0, Integer.MAX_VALUE, Integer.MAX_VALUE));
    }

    private static void unload() {
        sentence("promise 3");
        SiloPads x = new SiloPads();
        x.ship(1, 900, 900);
        due("as told", x.unload(2, 1, 300), 300);
        due("on top of age 0, rest new", x.unload(2, 1, 201), 201);
        layerIs(x, 2, 0, 500, 0, 0);
        layerIs(x, 2, 1, 1, 0, 0);
        due("ship has less", x.unload(2, 1, 500), 399);
        layerIs(x, 2, 1, 400, 0, 0);
        due("ship has none", x.unload(2, 1, 1), 0);
        due("no layer of nothing", x.silo(2, 1), 2);
        due("saved even so", x.count(14), 5);
        x.pass(1);
        x.ship(1, 900, 900);
        due("new layer on an older one", x.unload(2, 1, 1), 1);
        layerIs(x, 2, 2, 1, 0, 0);
        dueThrow(x, "silo 4", INDEX, () -> x.unload(4, 0, 1));
        dueThrow(x, "silo -1", INDEX, () -> x.unload(-1, 0, 1));
        dueThrow(x, "ship 6", INDEX, () -> x.unload(0, 6, 1));
        dueThrow(x, "ship -1 before tonnes", INDEX, () -> x.unload(0, -1, 0));
        dueThrow(x, "tonnes 0", ARGUMENT, () -> x.unload(0, 0, 0));
        dueThrow(x, "tonnes 501", ARGUMENT, () -> x.unload(0, 0, 501));
    }

    private static void unloadHasPlace() {
        sentence("promise 3, place");
        SiloPads x = new SiloPads();
        fill(x, 0, 500, 500, 150);
        x.ship(0, 900, 900);
        due("1200 at most", x.unload(0, 0, 100), 50);
        due("full", x.unload(0, 0, 1), 0);
        due("left in the ship", x.shipOf(0, 0), 850);
        fill(x, 1, 10, 10, 10, 10, 10, 10, 10, 10, 10);
        x.pass(1);
        x.ship(0, 900, 900);
        due("tenth", x.unload(1, 0, 480), 480);
        due("only on top of the tenth", x.unload(1, 0, 100), 20);
        x.pass(1);
        due("no eleventh", x.unload(1, 0, 100), 0);
        due("ten", x.silo(1, 1), 10);
        due("tonnes", x.silo(1, 0), 590);
    }

    private static void flow() {
        sentence("promise 4");
        SiloPads x = new SiloPads();
        fill(x, 0, 300);
        due("no pads, soft", x.flow(0, 1, 2), 10);
        due("no dust below 20 an hour", x.count(3), 0);
        x.set(2, 5);
        due("dust of each hour", x.flow(0, 1, 2), 8);
        due("dust", x.count(3), 2);
        x.set(2, 6);
        due("no dust of two hours together", x.flow(0, 1, 2), 10);
        x.pads(0, 4);
        x.set(2, 100);
        due("160 an hour", x.flow(0, 1, 1), 159);
        due("what it has", x.flow(0, 1, 24), 109);
        due("all gone", x.silo(0, 1), 0);
        due("dust in all", x.count(3), 4);
        due("nothing there", x.flow(0, 1, 24), 0);
        due("in the ship", x.shipOf(1, 0), 296);
        fill(x, 0, 500);
        x.set(2, 20);
        x.ship(2, 48, 0);
        due("room with the dust", x.flow(0, 2, 1), 46);
        due("left", x.silo(0, 0), 452);
        due("room of 2", x.flow(0, 2, 1), 2);
        due("full", x.flow(0, 2, 24), 0);
        due("left at last", x.silo(0, 0), 450);
        x.ship(2, 48, 0);
        due("hours until it is full", x.flow(0, 2, 24), 48);
        dueThrow(x, "silo 4", INDEX, () -> x.flow(4, 0, 1));
        dueThrow(x, "silo -1", INDEX, () -> x.flow(-1, 0, 1));
        dueThrow(x, "ship 6", INDEX, () -> x.flow(0, 6, 1));
        dueThrow(x, "ship -1 before hours", INDEX, () -> x.flow(0, -1, 0));
        dueThrow(x, "hours 0", ARGUMENT, () -> x.flow(0, 0, 0));
        dueThrow(x, "hours 25", ARGUMENT, () -> x.flow(0, 0, 25));
    }

    private static void flowOverLayers() {
        sentence("promise 4, layers");
        SiloPads x = new SiloPads();
        fill(x, 0, 100, 100);
        x.pads(0, 2);
        x.ship(1, 900, 0);
        due("80 and 20, less dust", x.flow(0, 1, 2), 76 + 19);
        layerIs(x, 0, 0, 100, 0, 0);
        due("the next one from the next hour on", x.flow(0, 1, 1), 76);
        SiloPads y = new SiloPads();
        fill(y, 0, 30, 30);
        y.pads(0, 1);
        y.ship(1, 900, 0);
        due("across", y.flow(0, 1, 2), 29 + 29);
        due("empty", y.silo(0, 1), 0);
        SiloPads z = new SiloPads();
        fill(z, 3, 4, 5, 6, 7, 8, 9, 10, 11, 12, 13);
        z.set(1, 20);
        due("out of ten layers", z.flow(3, 1, 1), 4);
        due("nine", z.silo(3, 1), 9);
        layerIs(z, 3, 0, 5, 8, 0);
        layerIs(z, 3, 8, 13, 0, 0);
        due("an hour for each", z.flow(3, 1, 24), 5 + 5 + 1 + 5 + 2 + 5 + 3 + 5 + 4 + 5 + 5 + 5 + 5 + 1 + 5 + 5 + 2 + 5 + 5 + 3);
        due("all gone", z.silo(3, 1), 0);
        z.ship(0, 900, 20);
        due("anew", z.unload(3, 0, 20), 20);
        layerIs(z, 3, 0, 20, 0, 0);
    }

    private static void flowUnderArch() {
        sentence("promise 4, arch");
        SiloPads x = archedSilo(100, 50);
        x.pads(0, 4);
        x.ship(1, 900, 0);
        due("60 and 40, then nothing", x.flow(0, 1, 24), 57 + 38);
        siloIs(x, 0, 50, 1, 4, 1, 0, 160);
        due("held", x.flow(0, 1, 24), 0);
        x.set(3, 50);
        due("all layers count", x.shake(0), 1);
        due("flows again", x.flow(0, 1, 1), 48);
    }

    private static void pads() {
        sentence("promise 5");
        SiloPads x = new SiloPads();
        due("first", x.pads(0, 4), 0);
        due("as many as it bears", x.pads(1, 2), 0);
        dueThrow(x, "one more", STATE, () -> x.pads(2, 1));
        due("again", x.pads(0, 4), 4);
        due("fewer", x.pads(0, 0), 4);
        due("then more", x.pads(1, 4), 2);
        due("then all", x.pads(3, 2), 0);
        due("on", x.count(6), 6);
        due("saved", x.count(14), 6);
        dueThrow(x, "silo 4", INDEX, () -> x.pads(4, 5));
        dueThrow(x, "silo -1", INDEX, () -> x.pads(-1, 0));
        dueThrow(x, "pads 5 before blower", ARGUMENT, () -> x.pads(0, 5));
        dueThrow(x, "pads -1", ARGUMENT, () -> x.pads(0, -1));
        x.set(0, 16);
        for (int silo = 0; silo < 4; silo++) {
            x.pads(silo, 4);
        }
        due("sixteen", x.count(6), 16);
    }

    private static void shake() {
        sentence("promise 6");
        SiloPads x = archedSilo(100, 199, 1);
        x.set(3, 201);
        due("too few tonnes", x.shake(0), 0);
        due("younger", x.layer(0, 0, 1), 4);
        due("only the lowest", x.layer(0, 1, 1), 4);
        due("arch still", x.silo(0, 3), 1);
        x.set(3, 200);
        due("enough tonnes", x.shake(0), 1);
        due("no arch", x.silo(0, 3), 0);
        due("shakes go on", x.silo(0, 4), 2);
        for (int k = 0; k < 4; k++) {
            due("without an arch", x.shake(0), 0);
        }
        due("not below 0", x.layer(0, 0, 1), 0);
        due("shakes of the silo", x.silo(0, 4), 6);
        due("shakes so far", x.count(8), 6);
        due("saved", x.count(14), 6);
        dueThrow(x, "silo 4", INDEX, () -> x.shake(4));
        dueThrow(x, "silo -1", INDEX, () -> x.shake(-1));
        dueThrow(x, "no layers", STATE, () -> x.shake(1));
    }

    private static void shakeThirdTime() {
        sentence("promise 6, third");
        SiloPads x = archedSilo(100, 10);
        due("first", x.shake(0), 0);
        due("second", x.shake(0), 0);
        due("third", x.shake(0), 1);
        SiloPads y = archedSilo(100, 10);
        y.ship(0, 900, 900);
        y.shake(0);
        y.shake(0);
        y.unload(0, 0, 10);
        due("anew behind a new layer", y.silo(0, 4), 0);
        due("first anew", y.shake(0), 0);
        y.unload(0, 0, 10);
        due("on top of a layer is not new", y.silo(0, 4), 1);
        due("second anew", y.shake(0), 0);
        due("third anew", y.shake(0), 1);
    }

    private static void pass() {
        sentence("promise 7");
        SiloPads x = new SiloPads();
        fill(x, 0, 50, 50);
        fill(x, 1, 50, 50);
        fill(x, 2, 50);
        x.shake(0);
        due("still soft", x.pass(1), 0);
        due("age", x.layer(0, 1, 1), 2);
        int older = x.layer(0, 0, 1);
        due("two arches, none over one layer", x.pass(30), 2);
        due("older", x.layer(0, 0, 1), older + 30);
        due("shakes anew", x.silo(0, 4), 0);
        due("arches", x.count(7), 2);
        due("formed", x.count(9), 2);
        due("none again", x.pass(1), 0);
        int days = x.count(0);
        due("saved", x.undo(), 5);
        due("days", x.count(0), days - 1);
        due("as one call", x.undo(), 4);
        due("days behind it", x.count(0), days - 31);
        due("no arches", x.count(7), 0);
        dueThrow(x, "days 0", ARGUMENT, () -> x.pass(0));
        dueThrow(x, "days -1", ARGUMENT, () -> x.pass(-1));
        dueThrow(x, "days 31", ARGUMENT, () -> x.pass(31));
        SiloPads y = new SiloPads();
        y.ship(0, 900, 900);
        y.unload(0, 0, 10);
        y.pass(3);
        y.unload(0, 0, 10);
        due("stiff on its fourth day", y.pass(1), 1);
    }

    private static void set() {
        sentence("promise 8");
        SiloPads x = new SiloPads();
        int[] least = {0, 1, 5, 0};
        int[] most = {16, 20, 100, 900};
        int[] first = {6, 3, 20, 200};
        for (int setting = 0; setting < 4; setting++) {
            int s = setting;
            due("first", x.set(s, least[s]), first[s]);
            due("least", x.set(s, most[s]), least[s]);
            due("most", x.count(10 + s), most[s]);
            dueThrow(x, "below", ARGUMENT, () -> x.set(s, least[s] - 1));
            dueThrow(x, "above", ARGUMENT, () -> x.set(s, most[s] + 1));
        }
        due("saved", x.count(14), 6);
        dueThrow(x, "setting 4", INDEX, () -> x.set(4, 10));
        dueThrow(x, "setting -1", INDEX, () -> x.set(-1, 10));
        x.pads(0, 3);
        dueThrow(x, "more pads on", STATE, () -> x.set(0, 2));
        dueThrow(x, "range before pads", ARGUMENT, () -> x.set(0, -1));
        due("as many", x.set(0, 3), 16);
    }

    private static void append() {
        sentence("promise 9");
        SiloPads x = new SiloPads();
        due("least", x.append(33), 1);
        due("most", x.append(126), 2);
        dueThrow(x, "32", ARGUMENT, () -> x.append(32));
        dueThrow(x, "127", ARGUMENT, () -> x.append(127));
        dueThrow(x, "-1", ARGUMENT, () -> x.append(-1));
        for (int k = 3; k <= 60; k++) {
            due("length", x.append('5'), k);
        }
        dueThrow(x, "full", STATE, () -> x.append('5'));
        dueThrow(x, "code before full", ARGUMENT, () -> x.append(127));
        due("not undoable", x.count(14), 0);
    }

    private static void clearBuffer() {
        sentence("promise 10");
        SiloPads x = new SiloPads();
        due("empty", x.clearBuffer(), 0);
        type(x, "+1;");
        due("three", x.clearBuffer(), 3);
        due("then none", x.clearBuffer(), 0);
        due("not undoable", x.count(14), 0);
        type(x, "+2");
        due("length anew", x.append('0'), 3);
    }

    private static void firstError() {
        sentence("promise 11");
        String[] texts = {"", "4", "/", "x", "<", ";", "0", "3<", "0+", "0=", "0<6", "0>/", "0<5;", "0<5:", "0<5:0", "0>5:0",
            "0<5:500", "0<5:501", "0<5:499", "0<5:50", "0<5:51", "0<5:510", "0<5:600", "0<5:1000", "0>5:24", "0>5:25", "0>5:240",
            "0>5:3", "0>5:31", "+", "+0", "+1", "+30", "+31", "+300", "+4", "+40", "+1;", "+1;;", "+1;+30;0<0:9;3>5:2", "+1+",
            "+1:", "1<1:1<", "+1;0<", "+:", "0<5:/"};
        int[] errors = {0, 0, 0, 0, 0, 0, 1, 2, 1, 1, 2, 2, 3, 4, 4, 4,
            7, 6, 7, 6, 6, 6, 6, 7, 6, 5, 6,
            5, 5, 1, 1, 2, 3, 2, 3, 2, 2, 3, 3, 18, 2,
            2, 5, 5, 1, 4};
        due("as many texts as errors", texts.length, errors.length);
        SiloPads x = new SiloPads();
        for (int k = 0; k < texts.length; k++) {
            type(x, texts[k]);
            due(texts[k], x.firstError(), errors[k]);
            due("stays", x.clearBuffer(), texts[k].length());
        }
        SiloPads y = new SiloPads();
        for (int k = 0; k < 19; k++) {
            type(y, "+1;");
        }
        type(y, "0<5");
        due("of any length", y.firstError(), 60);
    }

    private static void play() {
        sentence("promise 12");
        SiloPads x = new SiloPads();
        x.ship(1, 900, 700);
        type(x, "2<1:500;2<1:100;2<1:50;+4;2>3:2;+30");
        due("comes in and flows out", x.play(), 500 + 100 + 50 + 0);
        due("cleared", x.clearBuffer(), 0);
        due("days", x.count(0), 34);
        due("arches", x.count(9), 1);
        due("one call", x.count(14), 2);
        type(x, "2");
        due("undone", x.undo(), 1);
        due("days", x.count(0), 0);
        due("ship", x.shipOf(1, 0), 700);
        due("undo leaves the buffer", x.clearBuffer(), 1);
        x.pads(2, 2);
        type(x, "2<1:100;2>3:1;+1");
        due("both ways", x.play(), 100 + 76);
        type(x, "2>3:1;1<1:9");
        due("the last part, too", x.play(), 19 + 9);
        x.undo();
        due("ship 3", x.shipOf(3, 0), 76);
        due("dust", x.count(3), 4);
        String[] bad = {"", "+", "0", "0<", "0<1", "0<1:", "+1;", "+31", "0<1:501", "x", "+1;0>5:25"};
        for (String text : bad) {
            type(x, text);
            dueThrow(x, text, ARGUMENT, () -> x.play());
            due("stays", x.clearBuffer(), text.length());
        }
    }

    private static void undo() {
        sentence("promise 13");
        SiloPads x = new SiloPads();
        dueThrow(x, "none", STATE, () -> x.undo());
        for (int k = 0; k < 9; k++) {
            x.ship(k % 6, 900, 100 + k);
        }
        due("six at most", x.count(14), 6);
        for (int left = 5; left >= 0; left--) {
            due("left", x.undo(), left);
            due("brought", x.count(4), (left + 3) * 100L + (left + 3) * (left + 2) / 2);
        }
        dueThrow(x, "oldest dropped", STATE, () -> x.undo());
        SiloPads y = everything();
        String before = view(y);
        y.pass(30);
        y.shake(0);
        y.ship(0, 1, 1);
        y.set(1, 20);
        y.pads(0, 0);
        y.flow(1, 1, 24);
        for (int k = 0; k < 6; k++) {
            y.undo();
        }
        dueText("six calls undone", view(y), before);
        y.pads(3, 0);
        y.undo();
        y.unload(3, 5, 1);
        dueText("nothing comes of no ship", view(y), before);
        due("saved if nothing changed", y.count(14), 1);
    }

    private static void silo() {
        sentence("promise 14");
        SiloPads x = archedSilo(100, 50);
        siloIs(x, 0, 150, 2, 0, 1, 0, 0);
        x.shake(0);
        x.pads(0, 1);
        siloIs(x, 0, 150, 2, 1, 1, 1, 40);
        due("soft, one pad", x.layer(0, 0, 2), 0);
        x.pass(1);
        int[] stiff = {0, 0, 20, 40, 60};
        for (int pads = 0; pads <= 4; pads++) {
            x.pads(0, pads);
            due("stiff", x.silo(0, 5), stiff[pads]);
        }
        x.pass(30);
        int[] hard = {0, 0, 0, 0, 10};
        for (int pads = 0; pads <= 4; pads++) {
            x.pads(0, pads);
            due("hard", x.silo(0, 5), hard[pads]);
        }
        SiloPads y = new SiloPads();
        fill(y, 3, 1);
        int[] soft = {5, 40, 80, 120, 160};
        for (int pads = 0; pads <= 4; pads++) {
            y.pads(3, pads);
            due("soft", y.silo(3, 5), soft[pads]);
        }
        dueThrow(x, "silo 4", INDEX, () -> x.silo(4, 6));
        dueThrow(x, "silo -1", INDEX, () -> x.silo(-1, 0));
        dueThrow(x, "what 6", ARGUMENT, () -> x.silo(0, 6));
        dueThrow(x, "what -1", ARGUMENT, () -> x.silo(0, -1));
    }

    private static void layer() {
        sentence("promise 15");
        SiloPads x = new SiloPads();
        fill(x, 1, 10, 20);
        int[] kinds = {0, 0, 1, 1, 1, 2, 2, 2};
        for (int age = 1; age <= 8; age++) {
            x.pass(1);
            layerIs(x, 1, 0, 10, age + 1, kinds[age - 1]);
        }
        x.set(1, 9);
        due("soft by the setting now", x.layer(1, 0, 2), 0);
        x.set(1, 8);
        due("stiff by the setting now", x.layer(1, 0, 2), 1);
        x.set(1, 5);
        due("stiff up to twice", x.layer(1, 0, 2), 1);
        x.set(1, 4);
        due("hard by the setting now", x.layer(1, 0, 2), 2);
        dueThrow(x, "silo 4", INDEX, () -> x.layer(4, 0, 0));
        dueThrow(x, "silo -1", INDEX, () -> x.layer(-1, 0, 0));
        dueThrow(x, "layer 2", INDEX, () -> x.layer(1, 2, 3));
        dueThrow(x, "layer -1", INDEX, () -> x.layer(1, -1, 0));
        dueThrow(x, "layer 10", INDEX, () -> x.layer(1, 10, 0));
        dueThrow(x, "no layers", INDEX, () -> x.layer(0, 0, 0));
        dueThrow(x, "what 3", ARGUMENT, () -> x.layer(1, 1, 3));
        dueThrow(x, "what -1", ARGUMENT, () -> x.layer(1, 0, -1));
    }

    private static void shipOf() {
        sentence("promise 16");
        SiloPads x = new SiloPads();
        x.ship(5, 8, 3);
        due("tonnes", x.shipOf(5, 0), 3);
        due("hold", x.shipOf(5, 1), 8);
        dueThrow(x, "ship 6", INDEX, () -> x.shipOf(6, 2));
        dueThrow(x, "ship -1", INDEX, () -> x.shipOf(-1, 0));
        dueThrow(x, "what 2", ARGUMENT, () -> x.shipOf(0, 2));
        dueThrow(x, "what -1", ARGUMENT, () -> x.shipOf(0, -1));
    }

    private static void count() {
        sentence("promise 17");
        SiloPads x = archedSilo(100, 50);
        x.pads(0, 3);
        x.pads(1, 1);
        x.ship(1, 900, 20);
        x.flow(0, 1, 2);
        x.shake(0);
        x.set(3, 77);
        x.ship(1, 30, 7);
        int[] counts = {4, 70, 7, 4, 177, 96, 4, 1, 1, 1, 6, 3, 20, 77, 6};
        countsAre(x, counts);
        dueThrow(x, "what 15", ARGUMENT, () -> x.count(15));
        dueThrow(x, "what -1", ARGUMENT, () -> x.count(-1));
    }

    private static void whyNot() {
        sentence("promise 18");
        SiloPads x = archedSilo(30, 50);
        x.ship(1, 0, 0);
        due("no layers before a full ship", x.whyNot(1, 1), 1);
        due("full before stiff", x.whyNot(0, 1), 3);
        due("stiff", x.whyNot(0, 2), 4);
        x.pads(0, 1);
        due("stiff with one pad", x.whyNot(0, 2), 4);
        x.pads(0, 4);
        due("flows under the arch", x.whyNot(0, 2), 0);
        x.flow(0, 2, 1);
        due("over nothing", x.whyNot(0, 2), 2);
        due("over nothing before a full ship", x.whyNot(0, 1), 2);
        dueThrow(x, "silo 4", INDEX, () -> x.whyNot(4, 0));
        dueThrow(x, "silo -1", INDEX, () -> x.whyNot(-1, 0));
        dueThrow(x, "ship 6", INDEX, () -> x.whyNot(0, 6));
        dueThrow(x, "ship -1", INDEX, () -> x.whyNot(0, -1));
    }

    private static void ifFlowed() {
        sentence("promise 19");
        SiloPads x = new SiloPads();
        fill(x, 0, 100, 100);
        x.ship(1, 900, 0);
        x.set(0, 0);
        long before = x.digest();
        due("no pads", x.ifFlowed(0, 1, 3, 0), 15);
        due("more than the blower bears", x.ifFlowed(0, 1, 1, 4), 95);
        due("over layers", x.ifFlowed(0, 1, 24, 4), 190);
        due("nothing changed", x.digest(), before);
        x.set(0, 6);
        x.pads(0, 4);
        due("other pads than now", x.ifFlowed(0, 1, 1, 1), 38);
        due("as flow does", x.flow(0, 1, 24), 190);
        SiloPads y = archedSilo(100, 50);
        due("under an arch", y.ifFlowed(0, 1, 24, 4), 57 + 38);
        y.ship(1, 48, 0);
        due("room", y.ifFlowed(0, 1, 1, 4), 46);
        dueThrow(x, "silo 4", INDEX, () -> x.ifFlowed(4, 0, 0, 0));
        dueThrow(x, "silo -1", INDEX, () -> x.ifFlowed(-1, 0, 1, 0));
        dueThrow(x, "ship 6", INDEX, () -> x.ifFlowed(0, 6, 1, 5));
        dueThrow(x, "ship -1", INDEX, () -> x.ifFlowed(0, -1, 1, 0));
        dueThrow(x, "hours 0", ARGUMENT, () -> x.ifFlowed(0, 0, 0, 0));
        dueThrow(x, "hours 25", ARGUMENT, () -> x.ifFlowed(0, 0, 25, 0));
        dueThrow(x, "pads -1", ARGUMENT, () -> x.ifFlowed(0, 0, 1, -1));
        dueThrow(x, "pads 5", ARGUMENT, () -> x.ifFlowed(0, 0, 1, 5));
    }

    private static void urgent() {
        sentence("promise 20");
        SiloPads x = new SiloPads();
        due("none", x.urgent(), SiloPads.NONE);
        x.ship(0, 900, 900);
        x.unload(3, 0, 10);
        due("age 0 too", x.urgent(), 3);
        x.unload(1, 0, 10);
        due("the lowest", x.urgent(), 1);
        x.unload(2, 0, 11);
        due("most tonnes", x.urgent(), 2);
        x.pass(1);
        x.shake(2);
        due("oldest", x.urgent(), 1);
        x.unload(3, 0, 5);
        due("tonnes of all layers", x.urgent(), 3);
        SiloPads y = new SiloPads();
        fill(y, 1, 10, 10, 10);
        y.shake(1);
        y.shake(1);
        fill(y, 2, 50);
        y.pass(1);
        y.shake(1);
        due("the lowest layers' ages alone", y.urgent(), 2);
    }

    private static void nextArch() {
        sentence("promise 21");
        SiloPads x = new SiloPads();
        due("none", x.nextArch(), SiloPads.NONE);
        x.ship(0, 900, 900);
        x.unload(0, 0, 10);
        x.pass(1);
        due("one layer", x.nextArch(), SiloPads.NONE);
        x.unload(0, 0, 10);
        due("behind the soft days", x.nextArch(), 3);
        x.unload(1, 0, 500);
        x.unload(1, 0, 1);
        due("the soonest", x.nextArch(), 3);
        due("so many pass", x.pass(2), 0);
        due("tomorrow", x.nextArch(), 1);
        due("it forms", x.pass(1), 1);
        due("the other one", x.nextArch(), 1);
        due("it forms, too", x.pass(1), 1);
        due("both there", x.nextArch(), SiloPads.NONE);
        x.set(3, 0);
        x.shake(0);
        due("at once if it is stiff already", x.nextArch(), 1);
        x.set(1, 20);
        due("setting", x.nextArch(), 21 - x.layer(0, 0, 1));
        x.set(1, 1);
        due("hard already", x.nextArch(), 1);
    }

    private static void shakesNeeded() {
        sentence("promise 22");
        SiloPads x = archedSilo(100, 199);
        due("none", x.shakesNeeded(1), 0);
        due("three", x.shakesNeeded(0), 3);
        x.shake(0);
        due("two", x.shakesNeeded(0), 2);
        x.shake(0);
        due("one", x.shakesNeeded(0), 1);
        x.ship(0, 900, 900);
        x.unload(0, 0, 1);
        due("enough above the lowest", x.shakesNeeded(0), 1);
        x.set(3, 201);
        due("three behind a new layer", x.shakesNeeded(0), 3);
        x.pads(0, 4);
        x.ship(1, 900, 0);
        x.set(3, 200);
        x.flow(0, 1, 24);
        due("all layers, over nothing", x.shakesNeeded(0), 1);
        x.set(3, 201);
        due("too few even so", x.shakesNeeded(0), 3);
        x.shake(0);
        x.shake(0);
        due("third over nothing", x.shake(0), 1);
        due("none again", x.shakesNeeded(0), 0);
        dueThrow(x, "silo 4", INDEX, () -> x.shakesNeeded(4));
        dueThrow(x, "silo -1", INDEX, () -> x.shakesNeeded(-1));
    }

    private static void softness() {
        sentence("promise 23");
        SiloPads x = new SiloPads();
        dueDouble("empty", x.softness(), 1.0);
        x.ship(0, 900, 900);
        x.unload(0, 0, 100);
        dueDouble("all", x.softness(), 1.0);
        x.pass(4);
        dueDouble("none", x.softness(), 0.0);
        x.unload(0, 0, 30);
        x.unload(2, 0, 20);
        dueDouble("a third", x.softness(), 50.0 / 150);
        x.unload(3, 0, 50);
        dueDouble("of all silos", x.softness(), 0.5);
        x.set(1, 4);
        dueDouble("by the setting now", x.softness(), 1.0);
        x.set(1, 3);
        SiloPads y = new SiloPads();
        fill(y, 0, 30, 30, 60);
        y.pass(2);
        dueDouble("by layers", y.softness(), 0.75);
    }

    private static void digest() {
        sentence("promise 24");
        due("new", new SiloPads().digest(), hashOf(new SiloPads(), ""));
        SiloPads x = everything();
        due("full", x.digest(), hashOf(x, ""));
        x.ship(0, 900, 900);
        type(x, "+1;z");
        due("ship 0 is full, and a buffer", x.digest(), hashOf(x, "+1;z"));
        SiloPads y = everything();
        for (int k = 0; k < 3; k++) {
            y.flow(k % 4, k % 6, 1);
            y.pass(1);
            y.ship(k % 6, 900, 37 * k % 900);
            y.unload(k % 3, k % 6, 1 + 13 * k % 500);
        }
        due("on", y.digest(), hashOf(y, ""));
    }

    private static SiloPads everything() {
        SiloPads x = archedSilo(100, 50);
        fill(x, 1, 400, 300);
        x.pads(0, 3);
        x.pads(1, 2);
        x.shake(0);
        x.flow(0, 4, 2);
        x.set(2, 7);
        return x;
    }
}
