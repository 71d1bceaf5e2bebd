/** Streets that tests begin with. */
final class Streets {
    private Streets() {
    }

    /** A sheet of this gauge, and pots 0, 1 and 2: a kettle, a pan and a cauldron, each just smooth. */
    static CopperStreet withSmoothPots(int gauge) {
        CopperStreet street = Check.streetWithPots(gauge);
        street.planish(0, 24);
        street.planish(1, 16);
        street.planish(2, 40);
        return street;
    }

    /** Pans of gauge 1 with the numbers from 0 on, seven from a sheet, without blows: each of them sounds 54. */
    static CopperStreet withPans(int pans) {
        CopperStreet street = new CopperStreet();
        for (int pan = 0; pan < pans; pan++) {
            if (pan % 7 == 0) {
                street.sheet(1, 60);
            }
            street.raise(pan / 7, 1);
        }
        return street;
    }

    /** Up to seven of them, each new, smooth, and with 3 of tin: each sounds 50, and is good for orders up to 3 of tin. */
    static CopperStreet withGoodPans(int pans) {
        CopperStreet street = withPans(pans);
        for (int pan = 0; pan < pans; pan++) {
            makeGood(street, pan);
        }
        return street;
    }

    /** Makes a pan without blows smooth, with 3 of tin: there are coins for seven. */
    static void makeGood(CopperStreet street, int pan) {
        if (street.account(1) < 6) {
            street.bars(6);
        }
        street.planish(pan, 16);
        street.tin(pan, 3);
    }

    /** Three good pans, the last of which is sold for order 0, of 1 of tin and a pay of 9: 38 coins, 2 bars. */
    static CopperStreet withSoldPan() {
        CopperStreet street = withGoodPans(3);
        street.baker(1, 1, 9);
        street.sell(2, 0);
        return street;
    }

    /** A street with as many orders as there can be, each for a pan with 1 of tin and a pay of 10. */
    static void orderEight(CopperStreet street) {
        for (int order = 0; order < 8; order++) {
            street.baker(1, 1, 10);
        }
    }
}
