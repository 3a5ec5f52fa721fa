/** Puts whole texts into a roll, a character a call. */
final class Texts {
    private Texts() {
    }

    static void put(SenateRoll x, int text, String letters) {
        x.erase(text);
        for (int i = 0; i < letters.length(); i++) {
            x.write(text, letters.charAt(i));
        }
    }

    static int faultOf(String letters) {
        SenateRoll x = new SenateRoll();
        put(x, 0, letters);
        return x.fault(0);
    }

    static String repeat(String part, int times) {
        StringBuilder all = new StringBuilder();
        for (int i = 0; i < times; i++) {
            all.append(part);
        }
        return all.toString();
    }
}
