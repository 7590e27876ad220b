/** Makes an object of which a county has been told. */
final class Told {
    private Told() {
    }

    static CousinsByAgreement county(String text) {
        CousinsByAgreement county = new CousinsByAgreement();
        tell(county, text);
        return county;
    }

    static int tell(CousinsByAgreement county, String text) {
        for (char c : text.toCharArray()) {
            county.letter(c);
        }
        return county.county();
    }
}
