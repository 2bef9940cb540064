/** Promises 1 to 14: each call of Scheme's machine by itself, with its edges. */
public final class FaceTest {
    public static void main(String[] args) {
        newObject();
        Check.finish();
    }

    private static void newObject() {
        SchemeEleven x = new SchemeEleven();
        Check.due("NONE", SchemeEleven.NONE, -1);
        Check.due("look(0)", x.look(0), 0);
        Check.due("look(1)", x.look(1), 1024 + 6 * x.look(5));
        Check.due("look(2)", x.look(2), 8192 + 6 * 6);
    }
}
