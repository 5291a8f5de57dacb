import java.util.function.Supplier;

/** Objects that were told much, nothing, as much as they take, and of one land. */
enum States {
    NEW(RavenSupper::new), RICH(States::rich), FULL(States::full), ONE_LAND(States::oneLand);

    private final Supplier<RavenSupper> made;

    States(Supplier<RavenSupper> made) {
        this.made = made;
    }

    RavenSupper make() {
        return made.get();
    }

    /** Land 1 is 3 hours off, 2 is 5, 3 is 9; no way leads to land 4. Bird 0 reaches 6 hours, bird 1 all of 20. */
    private static RavenSupper rich() {
        RavenSupper x = new RavenSupper();
        type(x, "world 3;way 0 1 2;bird 1 8 9;belief 2 16;change 0 0 16;");
        x.world(5);
        x.way(0, 1, 3);
        x.way(1, 2, 2);
        x.way(2, 3, 4);
        x.way(0, 3, 9);
        x.bird(0, 12, 2);
        x.bird(1, 40, 1);
        x.change(1, 0, 5);
        x.change(2, 16, 3);
        x.belief(1, 4);
        x.belief(2, 13);
        x.belief(3, 16);
        x.crow(0, 1, true);
        x.crow(1, 1, false);
        x.crow(2, 2, true);
        x.image(0);
        for (int day = 0; day < 10; day++) {
            x.tell(0, day % 3, day % 6, day % 4 < 2);
            x.tell(1, day % 4, (day + 2) % 6, day % 3 < 2);
            x.evening();
        }
        x.image(1);
        x.undo();
        x.evening();
        x.tell(0, 1, 2, true);
        x.tell(1, 3, 5, false);
        x.world(0);
        x.worth(0, 4);
        return x;
    }

    /** Six lands, eight caws, a text of 150 bytes; no way from home; one image. */
    private static RavenSupper full() {
        RavenSupper x = new RavenSupper();
        x.world(6);
        x.way(1, 2, 4);
        x.bird(0, 40, 9);
        for (int caw = 0; caw < 8; caw++) {
            x.crow(caw % 4, caw % 6, caw < 5);
        }
        x.evening();
        x.tell(1, 0, 3, false);
        x.evening();
        x.image(1);
        x.belief(5, 1);
        x.evening();
        x.tell(0, 0, 4, true);
        String text = "world 6;way 4 5 9;way 0 4 1;";
        type(x, text + " ".repeat(150 - text.length()));
        x.type(' ');
        return x;
    }

    private static RavenSupper oneLand() {
        RavenSupper x = new RavenSupper();
        x.world(1);
        x.evening();
        x.tell(0, 0, 0, true);
        x.image(0);
        type(x, "world 2;way 0 1 9");
        return x;
    }

    private static void type(RavenSupper x, String text) {
        for (int i = 0; i < text.length(); i++) {
            x.type(text.charAt(i));
        }
    }
}
